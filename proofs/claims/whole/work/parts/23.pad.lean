/-! FirePanel$Pad: 0 text, 1 length, 2 at. What a reading method answers and leaves: a pair. -/
def wPad (G : pG) (P T : Nat) : Prop := P ∈ G.1 ∧ G.2.1 P = 1 ∧ G.2.2.2 P 0 = some T ∧ T ∈ G.1 ∧ G.2.1 T = 8 ∧ G.2.2.1 T = 20
theorem ix_of {x : Int32} {n : Nat} (h0 : ¬ x < 0) (h1 : ¬ nI n ≤ x) (hn : n < 2 ^ 31) : x = nI x.toNatClampNeg ∧ x.toNatClampNeg < n := by
  rcases pk_ix x hn with h | h | ⟨j, hj, e⟩
  · exact absurd h h0
  · exact absurd h h1
  · rw [e, nI_clamp (by omega)]; exact ⟨rfl, hj⟩
theorem ix_lt {x : Int32} {n : Nat} (h0 : ¬ x < 0) (h1 : x < nI n) (hn : n < 2 ^ 31) : x = nI x.toNatClampNeg ∧ x.toNatClampNeg < n := ix_of h0 (Int32.not_le.mpr h1) hn
theorem nz01 {v : Int32} (h : v = 0 ∨ v = 1) : narrow .boolean (.int v) = .int v := by rcases h with rfl | rfl <;> rfl
def xSt2 (c : Int32) : Int32 := if c = 122 then 1 else if c = 119 then 1 else if c = 102 then 1 else if c = 33 then 1 else if c = 40 then 1 else if c = 41 then 1 else if c = 38 then 1 else if c = 124 then 1 else if c = 62 then 1 else if c = 58 then 1 else 0
def xSt (c : Int32) : Int32 := if c < 48 then xSt2 c else if c ≤ 57 then 1 else xSt2 c
def xApp (M : pM) (P T : Nat) (c : Int32) : Int32 × pM := if xSt c = 0 then (0, M) else if M.1 P 1 < 0 then (0, M) else if M.1 P 1 < 20 then (1, pI (pI M T (M.1 P 1).toNatClampNeg c) P 1 (M.1 P 1 + 1)) else (0, M)
def xSee (M : pM) (P T : Nat) (c : Int32) : Int32 := if M.1 P 2 < 0 then 0 else if M.1 P 1 ≤ M.1 P 2 then 0 else if 20 ≤ M.1 P 2 then 0 else if M.1 T (M.1 P 2).toNatClampNeg = c then 1 else 0
def xPs (M : pM) (P T : Nat) (c : Int32) : Int32 × pM := if xSee M P T c = 0 then (0, M) else (1, pI M P 2 (M.1 P 2 + 1))
theorem xPs_0 {M : pM} {P T : Nat} {c : Int32} (h : (xPs M P T c).1 = 0) : (xPs M P T c).2 = M := by
  unfold xPs at h ⊢
  split at h
  · rename_i e; rw [if_pos e]
  · simp at h
theorem xPs_1 {M : pM} {P T : Nat} {c : Int32} (h : ¬ (xPs M P T c).1 = 0) : (xPs M P T c).1 = 1 := by
  unfold xPs at h ⊢
  split
  · rename_i e; rw [if_pos e] at h; simp at h
  · rfl
def xDg (M : pM) (P T : Nat) (b : Int32) : Int32 × pM := if M.1 P 2 < 0 then (-1, M) else if M.1 P 1 ≤ M.1 P 2 then (-1, M) else if M.1 P 2 < 20 then (if M.1 T (M.1 P 2).toNatClampNeg - 48 < 0 then (-1, M) else if M.1 T (M.1 P 2).toNatClampNeg - 48 < b then (M.1 T (M.1 P 2).toNatClampNeg - 48, pI M P 2 (M.1 P 2 + 1)) else (-1, M)) else (-1, M)
def xZn (M : pM) (P T r s : Nat) (f : Int32) : Int32 × pM := if (xDg M P T 4).1 = -1 then (0, (xDg M P T 4).2) else (1, xStep (xDg M P T 4).2 r s (f + (xDg M P T 4).1))
theorem xZn_01 (M : pM) (P T r s : Nat) (f : Int32) : (xZn M P T r s f).1 = 0 ∨ (xZn M P T r s f).1 = 1 := by unfold xZn; split <;> simp
def xT3 (M : pM) (P T r : Nat) : pM := pI (xDg (xPs M P T 62).2 P T 6).2 r 2 (xDg (xPs M P T 62).2 P T 6).1
def xT4 (M : pM) (P T r : Nat) : pM := if (xPs M P T 58).1 = 0 then M else pI (xDg (xPs M P T 58).2 P T 10).2 r 3 (xDg (xPs M P T 58).2 P T 10).1
def xTg (M : pM) (P T r : Nat) : Int32 × pM := if (xPs M P T 62).1 = 0 then (0, M) else if (xT3 M P T r).1 r 2 = -1 then (0, xT3 M P T r) else (if (xT4 (xT3 M P T r) P T r).1 r 3 = -1 then 0 else 1, xT4 (xT3 M P T r) P T r)
def xLeaf (P T r s : Nat) (M : pM) (k : Int32 × pM) : Int32 × pM := if (xPs M P T 122).1 = 0 then (if (xPs M P T 119).1 = 0 then (if (xPs M P T 102).1 = 0 then k else (1, xStep (xPs M P T 102).2 r s 8)) else xZn (xPs M P T 119).2 P T r s 4) else xZn (xPs M P T 122).2 P T r s 0
def xOp (M : pM) (P T : Nat) : Int32 := if xSee M P T 38 = 0 then (if xSee M P T 124 = 0 then -1 else 11) else 10
def xCl (P T r s : Nat) (tm : pM → Int32 × pM) : Nat → pM → Int32 × pM
  | 0, M => (1, M)
  | n + 1, M => if xOp M P T = -1 then (1, M) else if (tm (pI M P 2 (M.1 P 2 + 1))).1 = 0 then (0, (tm (pI M P 2 (M.1 P 2 + 1))).2) else xCl P T r s tm n (xStep (tm (pI M P 2 (M.1 P 2 + 1))).2 r s (xOp M P T))
def xCn (P T r s : Nat) (tm : pM → Int32 × pM) (M : pM) : Int32 × pM := if (tm M).1 = 0 then (0, (tm M).2) else xCl P T r s tm 20 (tm M).2
def xTm (P T r s : Nat) : Nat → pM → Int32 × pM
  | 0, M => xLeaf P T r s M (0, M)
  | f + 1, M => xLeaf P T r s M (if (xPs M P T 40).1 = 0 then (if (xPs M P T 33).1 = 0 then (0, M) else if (xTm P T r s f (xPs M P T 33).2).1 = 0 then (0, (xTm P T r s f (xPs M P T 33).2).2) else (1, xStep (xTm P T r s f (xPs M P T 33).2).2 r s 9)) else if (xCn P T r s (xTm P T r s f) (xPs M P T 40).2).1 = 0 then (0, (xCn P T r s (xTm P T r s f) (xPs M P T 40).2).2) else xPs (xCn P T r s (xTm P T r s f) (xPs M P T 40).2).2 P T 41)
def xI1 (M : pM) (P r : Nat) : pM := xClear (pI M P 2 0) r
def xRI (M : pM) (P T r s : Nat) : Int32 × pM :=
  if (xCn P T r s (xTm P T r s 4) (xI1 M P r)).1 = 0 then ((xCn P T r s (xTm P T r s 4) (xI1 M P r)).2.1 P 2, (xCn P T r s (xTm P T r s 4) (xI1 M P r)).2)
  else if (xTg (xCn P T r s (xTm P T r s 4) (xI1 M P r)).2 P T r).1 = 0 then ((xTg (xCn P T r s (xTm P T r s 4) (xI1 M P r)).2 P T r).2.1 P 2, (xTg (xCn P T r s (xTm P T r s 4) (xI1 M P r)).2 P T r).2)
  else (if (xTg (xCn P T r s (xTm P T r s 4) (xI1 M P r)).2 P T r).2.1 P 2 = (xTg (xCn P T r s (xTm P T r s 4) (xI1 M P r)).2 P T r).2.1 P 1 then -1 else (xTg (xCn P T r s (xTm P T r s 4) (xI1 M P r)).2 P T r).2.1 P 2, (xTg (xCn P T r s (xTm P T r s 4) (xI1 M P r)).2 P T r).2)
def rT (f : Nat) : Room := { frames := 2 + 2 * f, cells := 0, slots := 0, locals := 45 + 46 * f }
def rC (f : Nat) : Room := { frames := 3 + 2 * f, cells := 0, slots := 0, locals := 67 + 46 * f }

set_option maxHeartbeats 1600000 in
set_option maxRecDepth 100000 in
theorem k_X1_standsInRules {l : Launch} {D : va_G} {cy : Nat → ClassId} {X : va_W} {G : pG} {M : pM} {c : Int32}  : jK l yX1_standsInRules wsX1_standsInRules ({ frames := 0, cells := 0, slots := 0, locals := 0 } : Room) D cy X G M [.int c] (some (.int (xSt c))) X M := by
  refine jK_of (own := RX1) (by decide) rfl rfl (Nat.le_of_ble_eq_true rfl) (fun C E hl hD hcy hG => ?_)
  subst hl; subst hD; subst hcy; subst hG
  refine j_iload_n E dX1_standsInRules_0 rfl rfl ?_
  refine j_bipush (v := 48) E dX1_standsInRules_1 (by decide) ?_
  refine j_icmp_lt (tgt := 12) E dX1_standsInRules_3 (by decide) (fun h3 => ?_) (fun h3 => ?_)
  · refine j_iload_n E dX1_standsInRules_12 rfl rfl ?_
    refine j_bipush (v := 122) E dX1_standsInRules_13 (by decide) ?_
    refine j_icmp_eq (tgt := 72) E dX1_standsInRules_15 (by decide) (fun h15 => ?_) (fun h15 => ?_)
    · refine j_iconst (v := 1) E dX1_standsInRules_72 (by decide) ?_
      refine j_goto (tgt := 77) E dX1_standsInRules_73 (by decide) ?_
      exact j_zret E dX1_standsInRules_77 rfl (by first | rfl | (simp [xSt, xSt2, h3, h15]; done)) rfl (by first | rfl | (simp [xSt, xSt2, h3, h15]; done))
    · refine j_iload_n E dX1_standsInRules_18 rfl rfl ?_
      refine j_bipush (v := 119) E dX1_standsInRules_19 (by decide) ?_
      refine j_icmp_eq (tgt := 72) E dX1_standsInRules_21 (by decide) (fun h21 => ?_) (fun h21 => ?_)
      · refine j_iconst (v := 1) E dX1_standsInRules_72 (by decide) ?_
        refine j_goto (tgt := 77) E dX1_standsInRules_73 (by decide) ?_
        exact j_zret E dX1_standsInRules_77 rfl (by first | rfl | (simp [xSt, xSt2, h3, h15, h21]; done)) rfl (by first | rfl | (simp [xSt, xSt2, h3, h15, h21]; done))
      · refine j_iload_n E dX1_standsInRules_24 rfl rfl ?_
        refine j_bipush (v := 102) E dX1_standsInRules_25 (by decide) ?_
        refine j_icmp_eq (tgt := 72) E dX1_standsInRules_27 (by decide) (fun h27 => ?_) (fun h27 => ?_)
        · refine j_iconst (v := 1) E dX1_standsInRules_72 (by decide) ?_
          refine j_goto (tgt := 77) E dX1_standsInRules_73 (by decide) ?_
          exact j_zret E dX1_standsInRules_77 rfl (by first | rfl | (simp [xSt, xSt2, h3, h15, h21, h27]; done)) rfl (by first | rfl | (simp [xSt, xSt2, h3, h15, h21, h27]; done))
        · refine j_iload_n E dX1_standsInRules_30 rfl rfl ?_
          refine j_bipush (v := 33) E dX1_standsInRules_31 (by decide) ?_
          refine j_icmp_eq (tgt := 72) E dX1_standsInRules_33 (by decide) (fun h33 => ?_) (fun h33 => ?_)
          · refine j_iconst (v := 1) E dX1_standsInRules_72 (by decide) ?_
            refine j_goto (tgt := 77) E dX1_standsInRules_73 (by decide) ?_
            exact j_zret E dX1_standsInRules_77 rfl (by first | rfl | (simp [xSt, xSt2, h3, h15, h21, h27, h33]; done)) rfl (by first | rfl | (simp [xSt, xSt2, h3, h15, h21, h27, h33]; done))
          · refine j_iload_n E dX1_standsInRules_36 rfl rfl ?_
            refine j_bipush (v := 40) E dX1_standsInRules_37 (by decide) ?_
            refine j_icmp_eq (tgt := 72) E dX1_standsInRules_39 (by decide) (fun h39 => ?_) (fun h39 => ?_)
            · refine j_iconst (v := 1) E dX1_standsInRules_72 (by decide) ?_
              refine j_goto (tgt := 77) E dX1_standsInRules_73 (by decide) ?_
              exact j_zret E dX1_standsInRules_77 rfl (by first | rfl | (simp [xSt, xSt2, h3, h15, h21, h27, h33, h39]; done)) rfl (by first | rfl | (simp [xSt, xSt2, h3, h15, h21, h27, h33, h39]; done))
            · refine j_iload_n E dX1_standsInRules_42 rfl rfl ?_
              refine j_bipush (v := 41) E dX1_standsInRules_43 (by decide) ?_
              refine j_icmp_eq (tgt := 72) E dX1_standsInRules_45 (by decide) (fun h45 => ?_) (fun h45 => ?_)
              · refine j_iconst (v := 1) E dX1_standsInRules_72 (by decide) ?_
                refine j_goto (tgt := 77) E dX1_standsInRules_73 (by decide) ?_
                exact j_zret E dX1_standsInRules_77 rfl (by first | rfl | (simp [xSt, xSt2, h3, h15, h21, h27, h33, h39, h45]; done)) rfl (by first | rfl | (simp [xSt, xSt2, h3, h15, h21, h27, h33, h39, h45]; done))
              · refine j_iload_n E dX1_standsInRules_48 rfl rfl ?_
                refine j_bipush (v := 38) E dX1_standsInRules_49 (by decide) ?_
                refine j_icmp_eq (tgt := 72) E dX1_standsInRules_51 (by decide) (fun h51 => ?_) (fun h51 => ?_)
                · refine j_iconst (v := 1) E dX1_standsInRules_72 (by decide) ?_
                  refine j_goto (tgt := 77) E dX1_standsInRules_73 (by decide) ?_
                  exact j_zret E dX1_standsInRules_77 rfl (by first | rfl | (simp [xSt, xSt2, h3, h15, h21, h27, h33, h39, h45, h51]; done)) rfl (by first | rfl | (simp [xSt, xSt2, h3, h15, h21, h27, h33, h39, h45, h51]; done))
                · refine j_iload_n E dX1_standsInRules_54 rfl rfl ?_
                  refine j_bipush (v := 124) E dX1_standsInRules_55 (by decide) ?_
                  refine j_icmp_eq (tgt := 72) E dX1_standsInRules_57 (by decide) (fun h57 => ?_) (fun h57 => ?_)
                  · refine j_iconst (v := 1) E dX1_standsInRules_72 (by decide) ?_
                    refine j_goto (tgt := 77) E dX1_standsInRules_73 (by decide) ?_
                    exact j_zret E dX1_standsInRules_77 rfl (by first | rfl | (simp [xSt, xSt2, h3, h15, h21, h27, h33, h39, h45, h51, h57]; done)) rfl (by first | rfl | (simp [xSt, xSt2, h3, h15, h21, h27, h33, h39, h45, h51, h57]; done))
                  · refine j_iload_n E dX1_standsInRules_60 rfl rfl ?_
                    refine j_bipush (v := 62) E dX1_standsInRules_61 (by decide) ?_
                    refine j_icmp_eq (tgt := 72) E dX1_standsInRules_63 (by decide) (fun h63 => ?_) (fun h63 => ?_)
                    · refine j_iconst (v := 1) E dX1_standsInRules_72 (by decide) ?_
                      refine j_goto (tgt := 77) E dX1_standsInRules_73 (by decide) ?_
                      exact j_zret E dX1_standsInRules_77 rfl (by first | rfl | (simp [xSt, xSt2, h3, h15, h21, h27, h33, h39, h45, h51, h57, h63]; done)) rfl (by first | rfl | (simp [xSt, xSt2, h3, h15, h21, h27, h33, h39, h45, h51, h57, h63]; done))
                    · refine j_iload_n E dX1_standsInRules_66 rfl rfl ?_
                      refine j_bipush (v := 58) E dX1_standsInRules_67 (by decide) ?_
                      refine j_icmp_ne (tgt := 76) E dX1_standsInRules_69 (by decide) (fun h69 => ?_) (fun h69 => ?_)
                      · refine j_iconst (v := 0) E dX1_standsInRules_76 (by decide) ?_
                        exact j_zret E dX1_standsInRules_77 rfl (by first | rfl | (simp [xSt, xSt2, h3, h15, h21, h27, h33, h39, h45, h51, h57, h63, h69]; done)) rfl (by first | rfl | (simp [xSt, xSt2, h3, h15, h21, h27, h33, h39, h45, h51, h57, h63, h69]; done))
                      · refine j_iconst (v := 1) E dX1_standsInRules_72 (by decide) ?_
                        refine j_goto (tgt := 77) E dX1_standsInRules_73 (by decide) ?_
                        exact j_zret E dX1_standsInRules_77 rfl (by first | rfl | (simp [xSt, xSt2, h3, h15, h21, h27, h33, h39, h45, h51, h57, h63, h69]; done)) rfl (by first | rfl | (simp [xSt, xSt2, h3, h15, h21, h27, h33, h39, h45, h51, h57, h63, h69]; done))
  · refine j_iload_n E dX1_standsInRules_6 rfl rfl ?_
    refine j_bipush (v := 57) E dX1_standsInRules_7 (by decide) ?_
    refine j_icmp_le (tgt := 72) E dX1_standsInRules_9 (by decide) (fun h9 => ?_) (fun h9 => ?_)
    · refine j_iconst (v := 1) E dX1_standsInRules_72 (by decide) ?_
      refine j_goto (tgt := 77) E dX1_standsInRules_73 (by decide) ?_
      exact j_zret E dX1_standsInRules_77 rfl (by first | rfl | (simp [xSt, xSt2, h3, h9]; done)) rfl (by first | rfl | (simp [xSt, xSt2, h3, h9]; done))
    · refine j_iload_n E dX1_standsInRules_12 rfl rfl ?_
      refine j_bipush (v := 122) E dX1_standsInRules_13 (by decide) ?_
      refine j_icmp_eq (tgt := 72) E dX1_standsInRules_15 (by decide) (fun h15 => ?_) (fun h15 => ?_)
      · refine j_iconst (v := 1) E dX1_standsInRules_72 (by decide) ?_
        refine j_goto (tgt := 77) E dX1_standsInRules_73 (by decide) ?_
        exact j_zret E dX1_standsInRules_77 rfl (by first | rfl | (simp [xSt, xSt2, h3, h9, h15]; done)) rfl (by first | rfl | (simp [xSt, xSt2, h3, h9, h15]; done))
      · refine j_iload_n E dX1_standsInRules_18 rfl rfl ?_
        refine j_bipush (v := 119) E dX1_standsInRules_19 (by decide) ?_
        refine j_icmp_eq (tgt := 72) E dX1_standsInRules_21 (by decide) (fun h21 => ?_) (fun h21 => ?_)
        · refine j_iconst (v := 1) E dX1_standsInRules_72 (by decide) ?_
          refine j_goto (tgt := 77) E dX1_standsInRules_73 (by decide) ?_
          exact j_zret E dX1_standsInRules_77 rfl (by first | rfl | (simp [xSt, xSt2, h3, h9, h15, h21]; done)) rfl (by first | rfl | (simp [xSt, xSt2, h3, h9, h15, h21]; done))
        · refine j_iload_n E dX1_standsInRules_24 rfl rfl ?_
          refine j_bipush (v := 102) E dX1_standsInRules_25 (by decide) ?_
          refine j_icmp_eq (tgt := 72) E dX1_standsInRules_27 (by decide) (fun h27 => ?_) (fun h27 => ?_)
          · refine j_iconst (v := 1) E dX1_standsInRules_72 (by decide) ?_
            refine j_goto (tgt := 77) E dX1_standsInRules_73 (by decide) ?_
            exact j_zret E dX1_standsInRules_77 rfl (by first | rfl | (simp [xSt, xSt2, h3, h9, h15, h21, h27]; done)) rfl (by first | rfl | (simp [xSt, xSt2, h3, h9, h15, h21, h27]; done))
          · refine j_iload_n E dX1_standsInRules_30 rfl rfl ?_
            refine j_bipush (v := 33) E dX1_standsInRules_31 (by decide) ?_
            refine j_icmp_eq (tgt := 72) E dX1_standsInRules_33 (by decide) (fun h33 => ?_) (fun h33 => ?_)
            · refine j_iconst (v := 1) E dX1_standsInRules_72 (by decide) ?_
              refine j_goto (tgt := 77) E dX1_standsInRules_73 (by decide) ?_
              exact j_zret E dX1_standsInRules_77 rfl (by first | rfl | (simp [xSt, xSt2, h3, h9, h15, h21, h27, h33]; done)) rfl (by first | rfl | (simp [xSt, xSt2, h3, h9, h15, h21, h27, h33]; done))
            · refine j_iload_n E dX1_standsInRules_36 rfl rfl ?_
              refine j_bipush (v := 40) E dX1_standsInRules_37 (by decide) ?_
              refine j_icmp_eq (tgt := 72) E dX1_standsInRules_39 (by decide) (fun h39 => ?_) (fun h39 => ?_)
              · refine j_iconst (v := 1) E dX1_standsInRules_72 (by decide) ?_
                refine j_goto (tgt := 77) E dX1_standsInRules_73 (by decide) ?_
                exact j_zret E dX1_standsInRules_77 rfl (by first | rfl | (simp [xSt, xSt2, h3, h9, h15, h21, h27, h33, h39]; done)) rfl (by first | rfl | (simp [xSt, xSt2, h3, h9, h15, h21, h27, h33, h39]; done))
              · refine j_iload_n E dX1_standsInRules_42 rfl rfl ?_
                refine j_bipush (v := 41) E dX1_standsInRules_43 (by decide) ?_
                refine j_icmp_eq (tgt := 72) E dX1_standsInRules_45 (by decide) (fun h45 => ?_) (fun h45 => ?_)
                · refine j_iconst (v := 1) E dX1_standsInRules_72 (by decide) ?_
                  refine j_goto (tgt := 77) E dX1_standsInRules_73 (by decide) ?_
                  exact j_zret E dX1_standsInRules_77 rfl (by first | rfl | (simp [xSt, xSt2, h3, h9, h15, h21, h27, h33, h39, h45]; done)) rfl (by first | rfl | (simp [xSt, xSt2, h3, h9, h15, h21, h27, h33, h39, h45]; done))
                · refine j_iload_n E dX1_standsInRules_48 rfl rfl ?_
                  refine j_bipush (v := 38) E dX1_standsInRules_49 (by decide) ?_
                  refine j_icmp_eq (tgt := 72) E dX1_standsInRules_51 (by decide) (fun h51 => ?_) (fun h51 => ?_)
                  · refine j_iconst (v := 1) E dX1_standsInRules_72 (by decide) ?_
                    refine j_goto (tgt := 77) E dX1_standsInRules_73 (by decide) ?_
                    exact j_zret E dX1_standsInRules_77 rfl (by first | rfl | (simp [xSt, xSt2, h3, h9, h15, h21, h27, h33, h39, h45, h51]; done)) rfl (by first | rfl | (simp [xSt, xSt2, h3, h9, h15, h21, h27, h33, h39, h45, h51]; done))
                  · refine j_iload_n E dX1_standsInRules_54 rfl rfl ?_
                    refine j_bipush (v := 124) E dX1_standsInRules_55 (by decide) ?_
                    refine j_icmp_eq (tgt := 72) E dX1_standsInRules_57 (by decide) (fun h57 => ?_) (fun h57 => ?_)
                    · refine j_iconst (v := 1) E dX1_standsInRules_72 (by decide) ?_
                      refine j_goto (tgt := 77) E dX1_standsInRules_73 (by decide) ?_
                      exact j_zret E dX1_standsInRules_77 rfl (by first | rfl | (simp [xSt, xSt2, h3, h9, h15, h21, h27, h33, h39, h45, h51, h57]; done)) rfl (by first | rfl | (simp [xSt, xSt2, h3, h9, h15, h21, h27, h33, h39, h45, h51, h57]; done))
                    · refine j_iload_n E dX1_standsInRules_60 rfl rfl ?_
                      refine j_bipush (v := 62) E dX1_standsInRules_61 (by decide) ?_
                      refine j_icmp_eq (tgt := 72) E dX1_standsInRules_63 (by decide) (fun h63 => ?_) (fun h63 => ?_)
                      · refine j_iconst (v := 1) E dX1_standsInRules_72 (by decide) ?_
                        refine j_goto (tgt := 77) E dX1_standsInRules_73 (by decide) ?_
                        exact j_zret E dX1_standsInRules_77 rfl (by first | rfl | (simp [xSt, xSt2, h3, h9, h15, h21, h27, h33, h39, h45, h51, h57, h63]; done)) rfl (by first | rfl | (simp [xSt, xSt2, h3, h9, h15, h21, h27, h33, h39, h45, h51, h57, h63]; done))
                      · refine j_iload_n E dX1_standsInRules_66 rfl rfl ?_
                        refine j_bipush (v := 58) E dX1_standsInRules_67 (by decide) ?_
                        refine j_icmp_ne (tgt := 76) E dX1_standsInRules_69 (by decide) (fun h69 => ?_) (fun h69 => ?_)
                        · refine j_iconst (v := 0) E dX1_standsInRules_76 (by decide) ?_
                          exact j_zret E dX1_standsInRules_77 rfl (by first | rfl | (simp [xSt, xSt2, h3, h9, h15, h21, h27, h33, h39, h45, h51, h57, h63, h69]; done)) rfl (by first | rfl | (simp [xSt, xSt2, h3, h9, h15, h21, h27, h33, h39, h45, h51, h57, h63, h69]; done))
                        · refine j_iconst (v := 1) E dX1_standsInRules_72 (by decide) ?_
                          refine j_goto (tgt := 77) E dX1_standsInRules_73 (by decide) ?_
                          exact j_zret E dX1_standsInRules_77 rfl (by first | rfl | (simp [xSt, xSt2, h3, h9, h15, h21, h27, h33, h39, h45, h51, h57, h63, h69]; done)) rfl (by first | rfl | (simp [xSt, xSt2, h3, h9, h15, h21, h27, h33, h39, h45, h51, h57, h63, h69]; done))

set_option maxHeartbeats 1600000 in
set_option maxRecDepth 100000 in
theorem k_X1_append {l : Launch} {D : va_G} {cy : Nat → ClassId} {X : va_W} {G : pG} {M : pM} {P T : Nat} {c : Int32} (hW : wPad G P T) (hc : vp_nar .char c = c) : jK l yX1_append wsX1_append ({ frames := 1, cells := 0, slots := 0, locals := 20 } : Room) D cy X G M [.ref P, .int c] (some (.int (xApp M P T c).1)) X (xApp M P T c).2 := by
  refine jK_of (own := RX1) (by decide) rfl rfl (Nat.le_of_ble_eq_true rfl) (fun C E hl hD hcy hG => ?_)
  subst hl; subst hD; subst hcy; subst hG
  have hinX1 : ∀ w ∈ u_ws RX1 TX1 3, w ∈ wsX1_append := by decide +kernel
  obtain ⟨hP1, hP2, hP3, hT1, hT2, hT3⟩ := hW
  have hne : P ≠ T := ne_kind hP2 hT2 (by decide)
  refine j_iload_n E dX1_append_0 rfl rfl ?_
  refine j_callS1 (n := 1) E (k_X1_standsInRules ) dX1_append_1 gX1_append_X1_standsInRules rfl (by decide +kernel) ⟨rfl, rfl, by decide, by decide⟩ ⟨Nat.zero_le _, Nat.zero_le _⟩ rfl rfl (Nat.le_of_ble_eq_true rfl) rfl ?_
  refine j_if_eq (tgt := 23) E dX1_append_4 (by decide) (fun h4 => ?_) (fun h4 => ?_)
  · refine j_iconst (v := 0) E dX1_append_23 (by decide) ?_
    exact j_zret E dX1_append_24 rfl (by first | rfl | (simp [xApp, h4]; done)) rfl (by first | rfl | (simp [xApp, h4]; done))
  · refine j_aload_n E dX1_append_7 rfl rfl ?_
    refine j_getI (ci := 1) (k := 1) (Cn := RX1) (T := TX1) (N := 3) E dX1_append_8 (by assumption) (by assumption) rfl (by decide) hinX1 (by decide +kernel) rfl ?_
    refine j_if_lt (tgt := 23) E dX1_append_11 (by decide) (fun h11 => ?_) (fun h11 => ?_)
    · refine j_iconst (v := 0) E dX1_append_23 (by decide) ?_
      exact j_zret E dX1_append_24 rfl (by first | rfl | (simp [xApp, h4, h11]; done)) rfl (by first | rfl | (simp [xApp, h4, h11]; done))
    · refine j_aload_n E dX1_append_14 rfl rfl ?_
      refine j_getI (ci := 1) (k := 1) (Cn := RX1) (T := TX1) (N := 3) E dX1_append_15 (by assumption) (by assumption) rfl (by decide) hinX1 (by decide +kernel) rfl ?_
      refine j_bipush (v := 20) E dX1_append_18 (by decide) ?_
      refine j_icmp_lt (tgt := 25) E dX1_append_20 (by decide) (fun h20 => ?_) (fun h20 => ?_)
      · refine j_aload_n E dX1_append_25 rfl rfl ?_
        refine j_getP (ci := 1) (k := 0) (Cn := RX1) (T := TX1) (N := 3) E dX1_append_26 (by assumption) (by assumption) rfl (by decide) hinX1 (by decide +kernel) rfl (by assumption) ?_
        refine j_aload_n E dX1_append_29 rfl rfl ?_
        refine j_getI (ci := 1) (k := 1) (Cn := RX1) (T := TX1) (N := 3) E dX1_append_30 (by assumption) (by assumption) rfl (by decide) hinX1 (by decide +kernel) rfl ?_
        refine j_iload_n E dX1_append_33 rfl rfl ?_
        refine j_cast E dX1_append_34 (by assumption) (by assumption) (ix_lt h11 h20 (by decide)).1 (ix_lt h11 h20 (by decide)).2 (by decide) (by assumption) hc ?_
        refine j_aload_n E dX1_append_35 rfl rfl ?_
        refine j_dup E dX1_append_36 rfl ?_
        refine j_getI (ci := 1) (k := 1) (Cn := RX1) (T := TX1) (N := 3) E dX1_append_37 (by assumption) (by assumption) rfl (by decide) hinX1 (by decide +kernel) rfl ?_
        try simp only [pI_rd, pF_rd, pR_rd, pI_2, pF_1, pR_2, Nat.reduceEqDiff, ↓reduceIte, (fun M k v => pI_1n M k v hne)]
        refine j_iconst (v := 1) E dX1_append_40 (by decide) ?_
        refine j_iadd E dX1_append_41 ?_
        refine j_putI (ci := 1) (k := 1) (Cn := RX1) (T := TX1) (N := 3) E dX1_append_42 (by assumption) (by assumption) rfl (by decide) hinX1 (by decide +kernel) rfl tyX1 tyX1_ok nmX1 rfl rfl rfl rfl ?_
        refine j_iconst (v := 1) E dX1_append_45 (by decide) ?_
        exact j_zret E dX1_append_46 rfl (by first | rfl | (simp [xApp, h4, h11, h20]; done)) rfl (by first | rfl | (simp [xApp, h4, h11, h20]; done))
      · refine j_iconst (v := 0) E dX1_append_23 (by decide) ?_
        exact j_zret E dX1_append_24 rfl (by first | rfl | (simp [xApp, h4, h11, h20]; done)) rfl (by first | rfl | (simp [xApp, h4, h11, h20]; done))

set_option maxHeartbeats 1600000 in
set_option maxRecDepth 100000 in
theorem k_X1_sees {l : Launch} {D : va_G} {cy : Nat → ClassId} {X : va_W} {G : pG} {M : pM} {P T : Nat} {c : Int32} (hW : wPad G P T) : jK l yX1_sees wsX1_sees ({ frames := 0, cells := 0, slots := 0, locals := 0 } : Room) D cy X G M [.ref P, .int c] (some (.int (xSee M P T c))) X M := by
  refine jK_of (own := RX1) (by decide) rfl rfl (Nat.le_of_ble_eq_true rfl) (fun C E hl hD hcy hG => ?_)
  subst hl; subst hD; subst hcy; subst hG
  have hinX1 : ∀ w ∈ u_ws RX1 TX1 3, w ∈ wsX1_sees := by decide +kernel
  obtain ⟨hP1, hP2, hP3, hT1, hT2, hT3⟩ := hW
  refine j_aload_n E dX1_sees_0 rfl rfl ?_
  refine j_getI (ci := 1) (k := 2) (Cn := RX1) (T := TX1) (N := 3) E dX1_sees_1 (by assumption) (by assumption) rfl (by decide) hinX1 (by decide +kernel) rfl ?_
  refine j_if_lt (tgt := 44) E dX1_sees_4 (by decide) (fun h4 => ?_) (fun h4 => ?_)
  · refine j_iconst (v := 0) E dX1_sees_44 (by decide) ?_
    exact j_zret E dX1_sees_45 rfl (by first | rfl | (simp [xSee, h4]; done)) rfl (by first | rfl | (simp [xSee, h4]; done))
  · refine j_aload_n E dX1_sees_7 rfl rfl ?_
    refine j_getI (ci := 1) (k := 2) (Cn := RX1) (T := TX1) (N := 3) E dX1_sees_8 (by assumption) (by assumption) rfl (by decide) hinX1 (by decide +kernel) rfl ?_
    refine j_aload_n E dX1_sees_11 rfl rfl ?_
    refine j_getI (ci := 1) (k := 1) (Cn := RX1) (T := TX1) (N := 3) E dX1_sees_12 (by assumption) (by assumption) rfl (by decide) hinX1 (by decide +kernel) rfl ?_
    refine j_icmp_ge (tgt := 44) E dX1_sees_15 (by decide) (fun h15 => ?_) (fun h15 => ?_)
    · refine j_iconst (v := 0) E dX1_sees_44 (by decide) ?_
      exact j_zret E dX1_sees_45 rfl (by first | rfl | (simp [xSee, h4, h15]; done)) rfl (by first | rfl | (simp [xSee, h4, h15]; done))
    · refine j_aload_n E dX1_sees_18 rfl rfl ?_
      refine j_getI (ci := 1) (k := 2) (Cn := RX1) (T := TX1) (N := 3) E dX1_sees_19 (by assumption) (by assumption) rfl (by decide) hinX1 (by decide +kernel) rfl ?_
      refine j_bipush (v := 20) E dX1_sees_22 (by decide) ?_
      refine j_icmp_ge (tgt := 44) E dX1_sees_24 (by decide) (fun h24 => ?_) (fun h24 => ?_)
      · refine j_iconst (v := 0) E dX1_sees_44 (by decide) ?_
        exact j_zret E dX1_sees_45 rfl (by first | rfl | (simp [xSee, h4, h15, h24]; done)) rfl (by first | rfl | (simp [xSee, h4, h15, h24]; done))
      · refine j_aload_n E dX1_sees_27 rfl rfl ?_
        refine j_getP (ci := 1) (k := 0) (Cn := RX1) (T := TX1) (N := 3) E dX1_sees_28 (by assumption) (by assumption) rfl (by decide) hinX1 (by decide +kernel) rfl (by assumption) ?_
        refine j_aload_n E dX1_sees_31 rfl rfl ?_
        refine j_getI (ci := 1) (k := 2) (Cn := RX1) (T := TX1) (N := 3) E dX1_sees_32 (by assumption) (by assumption) rfl (by decide) hinX1 (by decide +kernel) rfl ?_
        refine j_cald E dX1_sees_35 (by assumption) (by assumption) (ix_of h4 h24 (by decide)).1 (ix_of h4 h24 (by decide)).2 (by decide) (by assumption) ?_
        refine j_iload_n E dX1_sees_36 rfl rfl ?_
        refine j_icmp_ne (tgt := 44) E dX1_sees_37 (by decide) (fun h37 => ?_) (fun h37 => ?_)
        · refine j_iconst (v := 0) E dX1_sees_44 (by decide) ?_
          exact j_zret E dX1_sees_45 rfl (by first | rfl | (simp [xSee, h4, h15, h24, h37]; done)) rfl (by first | rfl | (simp [xSee, h4, h15, h24, h37]; done))
        · refine j_iconst (v := 1) E dX1_sees_40 (by decide) ?_
          refine j_goto (tgt := 45) E dX1_sees_41 (by decide) ?_
          exact j_zret E dX1_sees_45 rfl (by first | rfl | (simp [xSee, h4, h15, h24, h37]; done)) rfl (by first | rfl | (simp [xSee, h4, h15, h24, h37]; done))

set_option maxHeartbeats 1600000 in
set_option maxRecDepth 100000 in
theorem k_X1_passes {l : Launch} {D : va_G} {cy : Nat → ClassId} {X : va_W} {G : pG} {M : pM} {P T : Nat} {c : Int32} (hW : wPad G P T) : jK l yX1_passes wsX1_passes ({ frames := 1, cells := 0, slots := 0, locals := 21 } : Room) D cy X G M [.ref P, .int c] (some (.int (xPs M P T c).1)) X (xPs M P T c).2 := by
  refine jK_of (own := RX1) (by decide) rfl rfl (Nat.le_of_ble_eq_true rfl) (fun C E hl hD hcy hG => ?_)
  subst hl; subst hD; subst hcy; subst hG
  have hinX1 : ∀ w ∈ u_ws RX1 TX1 3, w ∈ wsX1_passes := by decide +kernel
  have hW0 := hW
  obtain ⟨hP1, hP2, hP3, hT1, hT2, hT3⟩ := hW
  refine j_aload_n E dX1_passes_0 rfl rfl ?_
  refine j_iload_n E dX1_passes_1 rfl rfl ?_
  refine j_callV1 (ci := 1) (n := 1) E (k_X1_sees hW0) dX1_passes_2 gX1_passes_X1_sees rfl (by decide +kernel) ⟨rfl, rfl, by decide, by decide⟩ ⟨Nat.zero_le _, Nat.zero_le _⟩ (by assumption) (by assumption) rfl rfl rfl (Nat.le_of_ble_eq_true rfl) rfl ?_
  refine j_if_ne (tgt := 10) E dX1_passes_5 (by decide) (fun h5 => ?_) (fun h5 => ?_)
  · refine j_aload_n E dX1_passes_10 rfl rfl ?_
    refine j_dup E dX1_passes_11 rfl ?_
    refine j_getI (ci := 1) (k := 2) (Cn := RX1) (T := TX1) (N := 3) E dX1_passes_12 (by assumption) (by assumption) rfl (by decide) hinX1 (by decide +kernel) rfl ?_
    refine j_iconst (v := 1) E dX1_passes_15 (by decide) ?_
    refine j_iadd E dX1_passes_16 ?_
    refine j_putI (ci := 1) (k := 2) (Cn := RX1) (T := TX1) (N := 3) E dX1_passes_17 (by assumption) (by assumption) rfl (by decide) hinX1 (by decide +kernel) rfl tyX1 tyX1_ok nmX1 rfl rfl rfl rfl ?_
    refine j_iconst (v := 1) E dX1_passes_20 (by decide) ?_
    exact j_zret E dX1_passes_21 rfl (by first | rfl | (simp [xPs, h5]; done)) rfl (by first | rfl | (simp [xPs, h5]; done))
  · refine j_iconst (v := 0) E dX1_passes_8 (by decide) ?_
    exact j_zret E dX1_passes_9 rfl (by first | rfl | (simp [xPs, h5]; done)) rfl (by first | rfl | (simp [xPs, h5]; done))

set_option maxHeartbeats 1600000 in
set_option maxRecDepth 100000 in
theorem k_X1_readDigit {l : Launch} {D : va_G} {cy : Nat → ClassId} {X : va_W} {G : pG} {M : pM} {P T : Nat} {b : Int32} (hW : wPad G P T) : jK l yX1_readDigit wsX1_readDigit ({ frames := 0, cells := 0, slots := 0, locals := 0 } : Room) D cy X G M [.ref P, .int b] (some (.int (xDg M P T b).1)) X (xDg M P T b).2 := by
  refine jK_of (own := RX1) (by decide) rfl rfl (Nat.le_of_ble_eq_true rfl) (fun C E hl hD hcy hG => ?_)
  subst hl; subst hD; subst hcy; subst hG
  have hinX1 : ∀ w ∈ u_ws RX1 TX1 3, w ∈ wsX1_readDigit := by decide +kernel
  obtain ⟨hP1, hP2, hP3, hT1, hT2, hT3⟩ := hW
  refine j_aload_n E dX1_readDigit_0 rfl rfl ?_
  refine j_getI (ci := 1) (k := 2) (Cn := RX1) (T := TX1) (N := 3) E dX1_readDigit_1 (by assumption) (by assumption) rfl (by decide) hinX1 (by decide +kernel) rfl ?_
  refine j_if_lt (tgt := 27) E dX1_readDigit_4 (by decide) (fun h4 => ?_) (fun h4 => ?_)
  · refine j_iconst (v := -1) E dX1_readDigit_27 (by decide) ?_
    exact j_iret E dX1_readDigit_28 (by first | rfl | (simp [xDg, h4]; done)) rfl (by first | rfl | (simp [xDg, h4]; done))
  · refine j_aload_n E dX1_readDigit_7 rfl rfl ?_
    refine j_getI (ci := 1) (k := 2) (Cn := RX1) (T := TX1) (N := 3) E dX1_readDigit_8 (by assumption) (by assumption) rfl (by decide) hinX1 (by decide +kernel) rfl ?_
    refine j_aload_n E dX1_readDigit_11 rfl rfl ?_
    refine j_getI (ci := 1) (k := 1) (Cn := RX1) (T := TX1) (N := 3) E dX1_readDigit_12 (by assumption) (by assumption) rfl (by decide) hinX1 (by decide +kernel) rfl ?_
    refine j_icmp_ge (tgt := 27) E dX1_readDigit_15 (by decide) (fun h15 => ?_) (fun h15 => ?_)
    · refine j_iconst (v := -1) E dX1_readDigit_27 (by decide) ?_
      exact j_iret E dX1_readDigit_28 (by first | rfl | (simp [xDg, h4, h15]; done)) rfl (by first | rfl | (simp [xDg, h4, h15]; done))
    · refine j_aload_n E dX1_readDigit_18 rfl rfl ?_
      refine j_getI (ci := 1) (k := 2) (Cn := RX1) (T := TX1) (N := 3) E dX1_readDigit_19 (by assumption) (by assumption) rfl (by decide) hinX1 (by decide +kernel) rfl ?_
      refine j_bipush (v := 20) E dX1_readDigit_22 (by decide) ?_
      refine j_icmp_lt (tgt := 29) E dX1_readDigit_24 (by decide) (fun h24 => ?_) (fun h24 => ?_)
      · refine j_aload_n E dX1_readDigit_29 rfl rfl ?_
        refine j_getP (ci := 1) (k := 0) (Cn := RX1) (T := TX1) (N := 3) E dX1_readDigit_30 (by assumption) (by assumption) rfl (by decide) hinX1 (by decide +kernel) rfl (by assumption) ?_
        refine j_aload_n E dX1_readDigit_33 rfl rfl ?_
        refine j_getI (ci := 1) (k := 2) (Cn := RX1) (T := TX1) (N := 3) E dX1_readDigit_34 (by assumption) (by assumption) rfl (by decide) hinX1 (by decide +kernel) rfl ?_
        refine j_cald E dX1_readDigit_37 (by assumption) (by assumption) (ix_lt h4 h24 (by decide)).1 (ix_lt h4 h24 (by decide)).2 (by decide) (by assumption) ?_
        refine j_bipush (v := 48) E dX1_readDigit_38 (by decide) ?_
        refine j_isub E dX1_readDigit_40 ?_
        refine j_istore_n E dX1_readDigit_41 rfl (by decide) ?_
        refine j_iload_n E dX1_readDigit_42 rfl rfl ?_
        refine j_if_lt (tgt := 51) E dX1_readDigit_43 (by decide) (fun h43 => ?_) (fun h43 => ?_)
        · refine j_iconst (v := -1) E dX1_readDigit_51 (by decide) ?_
          exact j_iret E dX1_readDigit_52 (by first | rfl | (simp [xDg, h4, h15, h24, h43]; done)) rfl (by first | rfl | (simp [xDg, h4, h15, h24, h43]; done))
        · refine j_iload_n E dX1_readDigit_46 rfl rfl ?_
          refine j_iload_n E dX1_readDigit_47 rfl rfl ?_
          refine j_icmp_lt (tgt := 53) E dX1_readDigit_48 (by decide) (fun h48 => ?_) (fun h48 => ?_)
          · refine j_aload_n E dX1_readDigit_53 rfl rfl ?_
            refine j_dup E dX1_readDigit_54 rfl ?_
            refine j_getI (ci := 1) (k := 2) (Cn := RX1) (T := TX1) (N := 3) E dX1_readDigit_55 (by assumption) (by assumption) rfl (by decide) hinX1 (by decide +kernel) rfl ?_
            refine j_iconst (v := 1) E dX1_readDigit_58 (by decide) ?_
            refine j_iadd E dX1_readDigit_59 ?_
            refine j_putI (ci := 1) (k := 2) (Cn := RX1) (T := TX1) (N := 3) E dX1_readDigit_60 (by assumption) (by assumption) rfl (by decide) hinX1 (by decide +kernel) rfl tyX1 tyX1_ok nmX1 rfl rfl rfl rfl ?_
            refine j_iload_n E dX1_readDigit_63 rfl rfl ?_
            exact j_iret E dX1_readDigit_64 (by first | rfl | (simp [xDg, h4, h15, h24, h43, h48]; done)) rfl (by first | rfl | (simp [xDg, h4, h15, h24, h43, h48]; done))
          · refine j_iconst (v := -1) E dX1_readDigit_51 (by decide) ?_
            exact j_iret E dX1_readDigit_52 (by first | rfl | (simp [xDg, h4, h15, h24, h43, h48]; done)) rfl (by first | rfl | (simp [xDg, h4, h15, h24, h43, h48]; done))
      · refine j_iconst (v := -1) E dX1_readDigit_27 (by decide) ?_
        exact j_iret E dX1_readDigit_28 (by first | rfl | (simp [xDg, h4, h15, h24]; done)) rfl (by first | rfl | (simp [xDg, h4, h15, h24]; done))

set_option maxHeartbeats 1600000 in
set_option maxRecDepth 100000 in
theorem k_X1_readZone {l : Launch} {D : va_G} {cy : Nat → ClassId} {X : va_W} {G : pG} {M : pM} {P T r s : Nat} {f : Int32} (hW : wPad G P T) (hR : wRule G r s) : jK l yX1_readZone wsX1_readZone ({ frames := 1, cells := 0, slots := 0, locals := 22 } : Room) D cy X G M [.ref P, .ref r, .int f] (some (.int (xZn M P T r s f).1)) X (xZn M P T r s f).2 := by
  refine jK_of (own := RX1) (by decide) rfl rfl (Nat.le_of_ble_eq_true rfl) (fun C E hl hD hcy hG => ?_)
  subst hl; subst hD; subst hcy; subst hG
  have hW0 := hW
  have hR0 := hR
  obtain ⟨hP1, hP2, hP3, hT1, hT2, hT3⟩ := hW
  obtain ⟨hr1, hr2, hr3, hs1, hs2, hs3⟩ := hR
  refine j_aload_n E dX1_readZone_0 rfl rfl ?_
  refine j_iconst (v := 4) E dX1_readZone_1 (by decide) ?_
  refine j_callV1 (ci := 1) (n := 1) E (k_X1_readDigit hW0) dX1_readZone_2 gX1_readZone_X1_readDigit rfl (by decide +kernel) ⟨rfl, rfl, by decide, by decide⟩ ⟨Nat.zero_le _, Nat.zero_le _⟩ (by assumption) (by assumption) rfl rfl rfl (Nat.le_of_ble_eq_true rfl) rfl ?_
  refine j_istore_n E dX1_readZone_5 rfl (by decide) ?_
  refine j_iload_n E dX1_readZone_6 rfl rfl ?_
  refine j_iconst (v := -1) E dX1_readZone_7 (by decide) ?_
  refine j_icmp_ne (tgt := 13) E dX1_readZone_8 (by decide) (fun h8 => ?_) (fun h8 => ?_)
  · refine j_aload_n E dX1_readZone_13 rfl rfl ?_
    refine j_iload_n E dX1_readZone_14 rfl rfl ?_
    refine j_iload_n E dX1_readZone_15 rfl rfl ?_
    refine j_iadd E dX1_readZone_16 ?_
    refine j_callV0 (ci := 4) (n := 1) E (k_X4_addStep hR0) dX1_readZone_17 gX1_readZone_X4_addStep rfl (by decide +kernel) ⟨rfl, rfl, by decide, by decide⟩ ⟨Nat.zero_le _, Nat.zero_le _⟩ (by assumption) (by assumption) rfl rfl rfl (Nat.le_of_ble_eq_true rfl) rfl ?_
    refine j_iconst (v := 1) E dX1_readZone_20 (by decide) ?_
    exact j_zret E dX1_readZone_21 rfl (by first | rfl | (simp [xZn, h8]; done)) rfl (by first | rfl | (simp [xZn, h8]; done))
  · refine j_iconst (v := 0) E dX1_readZone_11 (by decide) ?_
    exact j_zret E dX1_readZone_12 rfl (by first | rfl | (simp [xZn, h8]; done)) rfl (by first | rfl | (simp [xZn, h8]; done))

set_option maxHeartbeats 1600000 in
set_option maxRecDepth 100000 in
theorem k_X1_readTarget {l : Launch} {D : va_G} {cy : Nat → ClassId} {X : va_W} {G : pG} {M : pM} {P T r s : Nat} (hW : wPad G P T) (hR : wRule G r s) : jK l yX1_readTarget wsX1_readTarget ({ frames := 2, cells := 0, slots := 0, locals := 42 } : Room) D cy X G M [.ref P, .ref r] (some (.int (xTg M P T r).1)) X (xTg M P T r).2 := by
  refine jK_of (own := RX1) (by decide) rfl rfl (Nat.le_of_ble_eq_true rfl) (fun C E hl hD hcy hG => ?_)
  subst hl; subst hD; subst hcy; subst hG
  have hinX4 : ∀ w ∈ u_ws RX4 TX4 5, w ∈ wsX1_readTarget := by decide +kernel
  have hW0 := hW
  have hR0 := hR
  obtain ⟨hP1, hP2, hP3, hT1, hT2, hT3⟩ := hW
  obtain ⟨hr1, hr2, hr3, hs1, hs2, hs3⟩ := hR
  refine j_aload_n E dX1_readTarget_0 rfl rfl ?_
  refine j_bipush (v := 62) E dX1_readTarget_1 (by decide) ?_
  refine j_callV1 (ci := 1) (n := 1) E (k_X1_passes hW0) dX1_readTarget_3 gX1_readTarget_X1_passes rfl (by decide +kernel) ⟨rfl, rfl, by decide, by decide⟩ ⟨Nat.zero_le _, Nat.zero_le _⟩ (by assumption) (by assumption) rfl rfl rfl (Nat.le_of_ble_eq_true rfl) rfl ?_
  refine j_if_ne (tgt := 11) E dX1_readTarget_6 (by decide) (fun h6 => ?_) (fun h6 => ?_)
  · refine j_aload_n E dX1_readTarget_11 rfl rfl ?_
    refine j_aload_n E dX1_readTarget_12 rfl rfl ?_
    refine j_bipush (v := 6) E dX1_readTarget_13 (by decide) ?_
    refine j_callV1 (ci := 1) (n := 1) E (k_X1_readDigit hW0) dX1_readTarget_15 gX1_readTarget_X1_readDigit rfl (by decide +kernel) ⟨rfl, rfl, by decide, by decide⟩ ⟨Nat.zero_le _, Nat.zero_le _⟩ (by assumption) (by assumption) rfl rfl rfl (Nat.le_of_ble_eq_true rfl) rfl ?_
    refine j_putI (ci := 4) (k := 2) (Cn := RX4) (T := TX4) (N := 5) E dX1_readTarget_18 (by assumption) (by assumption) rfl (by decide) hinX4 (by decide +kernel) rfl tyX4 tyX4_ok nmX4 rfl rfl rfl rfl ?_
    refine j_aload_n E dX1_readTarget_21 rfl rfl ?_
    refine j_getI (ci := 4) (k := 2) (Cn := RX4) (T := TX4) (N := 5) E dX1_readTarget_22 (by assumption) (by assumption) rfl (by decide) hinX4 (by decide +kernel) rfl ?_
    refine j_iconst (v := -1) E dX1_readTarget_25 (by decide) ?_
    refine j_icmp_ne (tgt := 31) E dX1_readTarget_26 (by decide) (fun h26 => ?_) (fun h26 => ?_)
    · refine j_aload_n E dX1_readTarget_31 rfl rfl ?_
      refine j_bipush (v := 58) E dX1_readTarget_32 (by decide) ?_
      refine j_callV1 (ci := 1) (n := 1) E (k_X1_passes hW0) dX1_readTarget_34 gX1_readTarget_X1_passes rfl (by decide +kernel) ⟨rfl, rfl, by decide, by decide⟩ ⟨Nat.zero_le _, Nat.zero_le _⟩ (by assumption) (by assumption) rfl rfl rfl (Nat.le_of_ble_eq_true rfl) rfl ?_
      refine j_if_eq (tgt := 50) E dX1_readTarget_37 (by decide) (fun h37 => ?_) (fun h37 => ?_)
      · try rw [xPs_0 h37]
        refine j_aload_n E dX1_readTarget_50 rfl rfl ?_
        refine j_getI (ci := 4) (k := 3) (Cn := RX4) (T := TX4) (N := 5) E dX1_readTarget_51 (by assumption) (by assumption) rfl (by decide) hinX4 (by decide +kernel) rfl ?_
        refine j_iconst (v := -1) E dX1_readTarget_54 (by decide) ?_
        refine j_icmp_eq (tgt := 62) E dX1_readTarget_55 (by decide) (fun h55 => ?_) (fun h55 => ?_)
        · refine j_iconst (v := 0) E dX1_readTarget_62 (by decide) ?_
          exact j_zret E dX1_readTarget_63 rfl (by simp [xTg, xT3, xT4, h6, h26, h37, h55]) rfl (by simp [xTg, xT3, xT4, h6, h26, h37, h55])
        · refine j_iconst (v := 1) E dX1_readTarget_58 (by decide) ?_
          refine j_goto (tgt := 63) E dX1_readTarget_59 (by decide) ?_
          exact j_zret E dX1_readTarget_63 rfl (by simp [xTg, xT3, xT4, h6, h26, h37, h55]) rfl (by simp [xTg, xT3, xT4, h6, h26, h37, h55])
      · refine j_aload_n E dX1_readTarget_40 rfl rfl ?_
        refine j_aload_n E dX1_readTarget_41 rfl rfl ?_
        refine j_bipush (v := 10) E dX1_readTarget_42 (by decide) ?_
        refine j_callV1 (ci := 1) (n := 1) E (k_X1_readDigit hW0) dX1_readTarget_44 gX1_readTarget_X1_readDigit rfl (by decide +kernel) ⟨rfl, rfl, by decide, by decide⟩ ⟨Nat.zero_le _, Nat.zero_le _⟩ (by assumption) (by assumption) rfl rfl rfl (Nat.le_of_ble_eq_true rfl) rfl ?_
        refine j_putI (ci := 4) (k := 3) (Cn := RX4) (T := TX4) (N := 5) E dX1_readTarget_47 (by assumption) (by assumption) rfl (by decide) hinX4 (by decide +kernel) rfl tyX4 tyX4_ok nmX4 rfl rfl rfl rfl ?_
        try rw [xPs_0 h37]
        refine j_aload_n E dX1_readTarget_50 rfl rfl ?_
        refine j_getI (ci := 4) (k := 3) (Cn := RX4) (T := TX4) (N := 5) E dX1_readTarget_51 (by assumption) (by assumption) rfl (by decide) hinX4 (by decide +kernel) rfl ?_
        refine j_iconst (v := -1) E dX1_readTarget_54 (by decide) ?_
        refine j_icmp_eq (tgt := 62) E dX1_readTarget_55 (by decide) (fun h55 => ?_) (fun h55 => ?_)
        · refine j_iconst (v := 0) E dX1_readTarget_62 (by decide) ?_
          exact j_zret E dX1_readTarget_63 rfl (by simp [xTg, xT3, xT4, h6, h26, h37, h55]) rfl (by simp [xTg, xT3, xT4, h6, h26, h37, h55])
        · refine j_iconst (v := 1) E dX1_readTarget_58 (by decide) ?_
          refine j_goto (tgt := 63) E dX1_readTarget_59 (by decide) ?_
          exact j_zret E dX1_readTarget_63 rfl (by simp [xTg, xT3, xT4, h6, h26, h37, h55]) rfl (by simp [xTg, xT3, xT4, h6, h26, h37, h55])
    · refine j_iconst (v := 0) E dX1_readTarget_29 (by decide) ?_
      exact j_zret E dX1_readTarget_30 rfl (by simp [xTg, xT3, xT4, h6, h26]) rfl (by simp [xTg, xT3, xT4, h6, h26])
  · rw [xPs_0 h6]
    refine j_iconst (v := 0) E dX1_readTarget_9 (by decide) ?_
    exact j_zret E dX1_readTarget_10 rfl (by simp [xTg, xT3, xT4, h6]) rfl (by simp [xTg, xT3, xT4, h6])

set_option maxHeartbeats 1600000 in
set_option maxRecDepth 100000 in
theorem kt_0 {l : Launch} {D : va_G} {cy : Nat → ClassId} {X : va_W} {G : pG} {P T r s : Nat} (hW : wPad G P T) (hR : wRule G r s) (M : pM) : jK l yX1_readTerm wsX1_readTerm (rT 0) D cy X G M [.ref P, .ref r, .int (nI (4 - 0))] (some (.int (xTm P T r s 0 M).1)) X (xTm P T r s 0 M).2 := by
  refine jK_of (own := RX1) (by decide) rfl rfl (Nat.le_of_ble_eq_true rfl) (fun C E hl hD hcy hG => ?_)
  subst hl; subst hD; subst hcy; subst hG
  have hW0 := hW
  have hR0 := hR
  obtain ⟨hP1, hP2, hP3, hT1, hT2, hT3⟩ := hW
  obtain ⟨hr1, hr2, hr3, hs1, hs2, hs3⟩ := hR

  refine j_aload_n E dX1_readTerm_0 rfl rfl ?_
  refine j_bipush (v := 122) E dX1_readTerm_1 (by decide) ?_
  refine j_callV1 (ci := 1) (n := 1) E (k_X1_passes hW0) dX1_readTerm_3 gX1_readTerm_X1_passes rfl (by decide +kernel) ⟨rfl, rfl, by simp only [rT, rC]; omega, by simp only [rT, rC]; omega⟩ ⟨Nat.zero_le _, Nat.zero_le _⟩ (by assumption) (by assumption) rfl rfl rfl (Nat.le_of_ble_eq_true rfl) rfl ?_
  refine j_if_eq (tgt := 16) E dX1_readTerm_6 (by decide) (fun h6 => ?_) (fun h6 => ?_)
  · rw [xPs_0 h6]
    refine j_aload_n E dX1_readTerm_16 rfl rfl ?_
    refine j_bipush (v := 119) E dX1_readTerm_17 (by decide) ?_
    refine j_callV1 (ci := 1) (n := 1) E (k_X1_passes hW0) dX1_readTerm_19 gX1_readTerm_X1_passes rfl (by decide +kernel) ⟨rfl, rfl, by simp only [rT, rC]; omega, by simp only [rT, rC]; omega⟩ ⟨Nat.zero_le _, Nat.zero_le _⟩ (by assumption) (by assumption) rfl rfl rfl (Nat.le_of_ble_eq_true rfl) rfl ?_
    refine j_if_eq (tgt := 32) E dX1_readTerm_22 (by decide) (fun h22 => ?_) (fun h22 => ?_)
    · rw [xPs_0 h22]
      refine j_aload_n E dX1_readTerm_32 rfl rfl ?_
      refine j_bipush (v := 102) E dX1_readTerm_33 (by decide) ?_
      refine j_callV1 (ci := 1) (n := 1) E (k_X1_passes hW0) dX1_readTerm_35 gX1_readTerm_X1_passes rfl (by decide +kernel) ⟨rfl, rfl, by simp only [rT, rC]; omega, by simp only [rT, rC]; omega⟩ ⟨Nat.zero_le _, Nat.zero_le _⟩ (by assumption) (by assumption) rfl rfl rfl (Nat.le_of_ble_eq_true rfl) rfl ?_
      refine j_if_eq (tgt := 49) E dX1_readTerm_38 (by decide) (fun h38 => ?_) (fun h38 => ?_)
      · rw [xPs_0 h38]
        refine j_iload_n E dX1_readTerm_49 rfl rfl ?_
        refine j_iconst (v := 4) E dX1_readTerm_50 (by decide) ?_
        refine j_icmp_lt (tgt := 56) E dX1_readTerm_51 (by decide) (fun h51 => ?_) (fun h51 => ?_)
        · exact absurd h51 (by decide)
        · refine j_iconst (v := 0) E dX1_readTerm_54 (by decide) ?_
          exact j_zret E dX1_readTerm_55 rfl (by simp [xTm, xLeaf, h6, h22, h38, h51]) rfl (by simp [xTm, xLeaf, h6, h22, h38, h51])
      · refine j_aload_n E dX1_readTerm_41 rfl rfl ?_
        refine j_bipush (v := 8) E dX1_readTerm_42 (by decide) ?_
        refine j_callV0 (ci := 4) (n := 1) E (k_X4_addStep hR0) dX1_readTerm_44 gX1_readTerm_X4_addStep rfl (by decide +kernel) ⟨rfl, rfl, by simp only [rT, rC]; omega, by simp only [rT, rC]; omega⟩ ⟨Nat.zero_le _, Nat.zero_le _⟩ (by assumption) (by assumption) rfl rfl rfl (Nat.le_of_ble_eq_true rfl) rfl ?_
        refine j_iconst (v := 1) E dX1_readTerm_47 (by decide) ?_
        exact j_zret E dX1_readTerm_48 rfl (by simp [xTm, xLeaf, h6, h22, h38]) rfl (by simp [xTm, xLeaf, h6, h22, h38])
    · refine j_aload_n E dX1_readTerm_25 rfl rfl ?_
      refine j_aload_n E dX1_readTerm_26 rfl rfl ?_
      refine j_iconst (v := 4) E dX1_readTerm_27 (by decide) ?_
      refine j_callV1 (ci := 1) (n := 2) E (k_X1_readZone hW0 hR0) dX1_readTerm_28 gX1_readTerm_X1_readZone rfl (by decide +kernel) ⟨rfl, rfl, by simp only [rT, rC]; omega, by simp only [rT, rC]; omega⟩ ⟨Nat.zero_le _, Nat.zero_le _⟩ (by assumption) (by assumption) rfl rfl rfl (Nat.le_of_ble_eq_true rfl) rfl ?_
      exact j_zret E dX1_readTerm_31 (nz01 (xZn_01 _ _ _ _ _ _)) (by simp [xTm, xLeaf, h6, h22]) rfl (by simp [xTm, xLeaf, h6, h22])
  · refine j_aload_n E dX1_readTerm_9 rfl rfl ?_
    refine j_aload_n E dX1_readTerm_10 rfl rfl ?_
    refine j_iconst (v := 0) E dX1_readTerm_11 (by decide) ?_
    refine j_callV1 (ci := 1) (n := 2) E (k_X1_readZone hW0 hR0) dX1_readTerm_12 gX1_readTerm_X1_readZone rfl (by decide +kernel) ⟨rfl, rfl, by simp only [rT, rC]; omega, by simp only [rT, rC]; omega⟩ ⟨Nat.zero_le _, Nat.zero_le _⟩ (by assumption) (by assumption) rfl rfl rfl (Nat.le_of_ble_eq_true rfl) rfl ?_
    exact j_zret E dX1_readTerm_15 (nz01 (xZn_01 _ _ _ _ _ _)) (by simp [xTm, xLeaf, h6]) rfl (by simp [xTm, xLeaf, h6])

set_option maxHeartbeats 1600000 in
set_option maxRecDepth 100000 in
theorem kt_s {l : Launch} {D : va_G} {cy : Nat → ClassId} {X : va_W} {G : pG} {P T r s : Nat} (hW : wPad G P T) (hR : wRule G r s) {f : Nat} (hf : f < 4) (hT : ∀ M : pM, jK l yX1_readTerm wsX1_readTerm (rT f) D cy X G M [.ref P, .ref r, .int (nI (4 - f))] (some (.int (xTm P T r s f M).1)) X (xTm P T r s f M).2) (hC : ∀ M : pM, jK l yX1_readCondition wsX1_readCondition (rC f) D cy X G M [.ref P, .ref r, .int (nI (4 - f))] (some (.int (xCn P T r s (xTm P T r s f) M).1)) X (xCn P T r s (xTm P T r s f) M).2) (M : pM) : jK l yX1_readTerm wsX1_readTerm (rT (f + 1)) D cy X G M [.ref P, .ref r, .int (nI (4 - (f + 1)))] (some (.int (xTm P T r s (f + 1) M).1)) X (xTm P T r s (f + 1) M).2 := by
  refine jK_of (own := RX1) (by decide) rfl rfl (Nat.le_of_ble_eq_true rfl) (fun C E hl hD hcy hG => ?_)
  subst hl; subst hD; subst hcy; subst hG
  have hW0 := hW
  have hR0 := hR
  obtain ⟨hP1, hP2, hP3, hT1, hT2, hT3⟩ := hW
  obtain ⟨hr1, hr2, hr3, hs1, hs2, hs3⟩ := hR
  refine j_aload_n E dX1_readTerm_0 rfl rfl ?_
  refine j_bipush (v := 122) E dX1_readTerm_1 (by decide) ?_
  refine j_callV1 (ci := 1) (n := 1) E (k_X1_passes hW0) dX1_readTerm_3 gX1_readTerm_X1_passes rfl (by decide +kernel) ⟨rfl, rfl, by simp only [rT, rC]; omega, by simp only [rT, rC]; omega⟩ ⟨Nat.zero_le _, Nat.zero_le _⟩ (by assumption) (by assumption) rfl rfl rfl (Nat.le_of_ble_eq_true rfl) rfl ?_
  refine j_if_eq (tgt := 16) E dX1_readTerm_6 (by decide) (fun h6 => ?_) (fun h6 => ?_)
  · rw [xPs_0 h6]
    refine j_aload_n E dX1_readTerm_16 rfl rfl ?_
    refine j_bipush (v := 119) E dX1_readTerm_17 (by decide) ?_
    refine j_callV1 (ci := 1) (n := 1) E (k_X1_passes hW0) dX1_readTerm_19 gX1_readTerm_X1_passes rfl (by decide +kernel) ⟨rfl, rfl, by simp only [rT, rC]; omega, by simp only [rT, rC]; omega⟩ ⟨Nat.zero_le _, Nat.zero_le _⟩ (by assumption) (by assumption) rfl rfl rfl (Nat.le_of_ble_eq_true rfl) rfl ?_
    refine j_if_eq (tgt := 32) E dX1_readTerm_22 (by decide) (fun h22 => ?_) (fun h22 => ?_)
    · rw [xPs_0 h22]
      refine j_aload_n E dX1_readTerm_32 rfl rfl ?_
      refine j_bipush (v := 102) E dX1_readTerm_33 (by decide) ?_
      refine j_callV1 (ci := 1) (n := 1) E (k_X1_passes hW0) dX1_readTerm_35 gX1_readTerm_X1_passes rfl (by decide +kernel) ⟨rfl, rfl, by simp only [rT, rC]; omega, by simp only [rT, rC]; omega⟩ ⟨Nat.zero_le _, Nat.zero_le _⟩ (by assumption) (by assumption) rfl rfl rfl (Nat.le_of_ble_eq_true rfl) rfl ?_
      refine j_if_eq (tgt := 49) E dX1_readTerm_38 (by decide) (fun h38 => ?_) (fun h38 => ?_)
      · rw [xPs_0 h38]
        refine j_iload_n E dX1_readTerm_49 rfl rfl ?_
        refine j_iconst (v := 4) E dX1_readTerm_50 (by decide) ?_
        refine j_icmp_lt (tgt := 56) E dX1_readTerm_51 (by decide) (fun h51 => ?_) (fun h51 => ?_)
        · refine j_aload_n E dX1_readTerm_56 rfl rfl ?_
          refine j_bipush (v := 40) E dX1_readTerm_57 (by decide) ?_
          refine j_callV1 (ci := 1) (n := 1) E (k_X1_passes hW0) dX1_readTerm_59 gX1_readTerm_X1_passes rfl (by decide +kernel) ⟨rfl, rfl, by simp only [rT, rC]; omega, by simp only [rT, rC]; omega⟩ ⟨Nat.zero_le _, Nat.zero_le _⟩ (by assumption) (by assumption) rfl rfl rfl (Nat.le_of_ble_eq_true rfl) rfl ?_
          refine j_if_eq (tgt := 91) E dX1_readTerm_62 (by decide) (fun h62 => ?_) (fun h62 => ?_)
          · rw [xPs_0 h62]
            refine j_aload_n E dX1_readTerm_91 rfl rfl ?_
            refine j_bipush (v := 33) E dX1_readTerm_92 (by decide) ?_
            refine j_callV1 (ci := 1) (n := 1) E (k_X1_passes hW0) dX1_readTerm_94 gX1_readTerm_X1_passes rfl (by decide +kernel) ⟨rfl, rfl, by simp only [rT, rC]; omega, by simp only [rT, rC]; omega⟩ ⟨Nat.zero_le _, Nat.zero_le _⟩ (by assumption) (by assumption) rfl rfl rfl (Nat.le_of_ble_eq_true rfl) rfl ?_
            refine j_if_eq (tgt := 119) E dX1_readTerm_97 (by decide) (fun h97 => ?_) (fun h97 => ?_)
            · try rw [xPs_0 h97]
              refine j_iconst (v := 0) E dX1_readTerm_119 (by decide) ?_
              exact j_zret E dX1_readTerm_120 rfl (by simp [xTm, xLeaf, h6, h22, h38, h51, h62, h97]) rfl (by simp [xTm, xLeaf, h6, h22, h38, h51, h62, h97])
            · refine j_aload_n E dX1_readTerm_100 rfl rfl ?_
              refine j_aload_n E dX1_readTerm_101 rfl rfl ?_
              refine j_iload_n E dX1_readTerm_102 rfl rfl ?_
              refine j_iconst (v := 1) E dX1_readTerm_103 (by decide) ?_
              refine j_iadd E dX1_readTerm_104 ?_
              rw [show nI (4 - (f + 1)) + 1 = nI (4 - f) by rw [nI_1]; congr 1; omega]
              refine j_callV1 (ci := 1) (n := 2) E (hT _) dX1_readTerm_105 gX1_readTerm_X1_readTerm rfl (by decide +kernel) ⟨rfl, rfl, by simp only [rT, rC]; omega, by simp only [rT, rC]; omega⟩ ⟨Nat.zero_le _, Nat.zero_le _⟩ (by assumption) (by assumption) rfl rfl rfl (Nat.le_of_ble_eq_true rfl) rfl ?_
              refine j_if_eq (tgt := 119) E dX1_readTerm_108 (by decide) (fun h108 => ?_) (fun h108 => ?_)
              · try rw [xPs_0 h97]
                refine j_iconst (v := 0) E dX1_readTerm_119 (by decide) ?_
                exact j_zret E dX1_readTerm_120 rfl (by simp [xTm, xLeaf, h6, h22, h38, h51, h62, h97, h108]) rfl (by simp [xTm, xLeaf, h6, h22, h38, h51, h62, h97, h108])
              · refine j_aload_n E dX1_readTerm_111 rfl rfl ?_
                refine j_bipush (v := 9) E dX1_readTerm_112 (by decide) ?_
                refine j_callV0 (ci := 4) (n := 1) E (k_X4_addStep hR0) dX1_readTerm_114 gX1_readTerm_X4_addStep rfl (by decide +kernel) ⟨rfl, rfl, by simp only [rT, rC]; omega, by simp only [rT, rC]; omega⟩ ⟨Nat.zero_le _, Nat.zero_le _⟩ (by assumption) (by assumption) rfl rfl rfl (Nat.le_of_ble_eq_true rfl) rfl ?_
                refine j_iconst (v := 1) E dX1_readTerm_117 (by decide) ?_
                exact j_zret E dX1_readTerm_118 rfl (by simp [xTm, xLeaf, h6, h22, h38, h51, h62, h97, h108]) rfl (by simp [xTm, xLeaf, h6, h22, h38, h51, h62, h97, h108])
          · refine j_aload_n E dX1_readTerm_65 rfl rfl ?_
            refine j_aload_n E dX1_readTerm_66 rfl rfl ?_
            refine j_iload_n E dX1_readTerm_67 rfl rfl ?_
            refine j_iconst (v := 1) E dX1_readTerm_68 (by decide) ?_
            refine j_iadd E dX1_readTerm_69 ?_
            rw [show nI (4 - (f + 1)) + 1 = nI (4 - f) by rw [nI_1]; congr 1; omega]
            refine j_callV1 (ci := 1) (n := 2) E (hC _) dX1_readTerm_70 gX1_readTerm_X1_readCondition rfl (by decide +kernel) ⟨rfl, rfl, by simp only [rT, rC]; omega, by simp only [rT, rC]; omega⟩ ⟨Nat.zero_le _, Nat.zero_le _⟩ (by assumption) (by assumption) rfl rfl rfl (Nat.le_of_ble_eq_true rfl) rfl ?_
            refine j_if_eq (tgt := 89) E dX1_readTerm_73 (by decide) (fun h73 => ?_) (fun h73 => ?_)
            · refine j_iconst (v := 0) E dX1_readTerm_89 (by decide) ?_
              exact j_zret E dX1_readTerm_90 rfl (by first | (simp [xTm, xLeaf, h6, h22, h38, h51, h62, h73]; done) | (simp [xTm, xLeaf, h6, h22, h38, h51, h62, h73, xPs_1 h82]; done)) rfl (by first | (simp [xTm, xLeaf, h6, h22, h38, h51, h62, h73]; done) | (simp [xTm, xLeaf, h6, h22, h38, h51, h62, h73, xPs_1 h82]; done))
            · refine j_aload_n E dX1_readTerm_76 rfl rfl ?_
              refine j_bipush (v := 41) E dX1_readTerm_77 (by decide) ?_
              refine j_callV1 (ci := 1) (n := 1) E (k_X1_passes hW0) dX1_readTerm_79 gX1_readTerm_X1_passes rfl (by decide +kernel) ⟨rfl, rfl, by simp only [rT, rC]; omega, by simp only [rT, rC]; omega⟩ ⟨Nat.zero_le _, Nat.zero_le _⟩ (by assumption) (by assumption) rfl rfl rfl (Nat.le_of_ble_eq_true rfl) rfl ?_
              refine j_if_eq (tgt := 89) E dX1_readTerm_82 (by decide) (fun h82 => ?_) (fun h82 => ?_)
              · refine j_iconst (v := 0) E dX1_readTerm_89 (by decide) ?_
                exact j_zret E dX1_readTerm_90 rfl (by first | (simp [xTm, xLeaf, h6, h22, h38, h51, h62, h73, h82]; done) | (simp [xTm, xLeaf, h6, h22, h38, h51, h62, h73, h82, xPs_1 h82]; done)) rfl (by first | (simp [xTm, xLeaf, h6, h22, h38, h51, h62, h73, h82]; done) | (simp [xTm, xLeaf, h6, h22, h38, h51, h62, h73, h82, xPs_1 h82]; done))
              · refine j_iconst (v := 1) E dX1_readTerm_85 (by decide) ?_
                refine j_goto (tgt := 90) E dX1_readTerm_86 (by decide) ?_
                exact j_zret E dX1_readTerm_90 rfl (by first | (simp [xTm, xLeaf, h6, h22, h38, h51, h62, h73, h82]; done) | (simp [xTm, xLeaf, h6, h22, h38, h51, h62, h73, h82, xPs_1 h82]; done)) rfl (by first | (simp [xTm, xLeaf, h6, h22, h38, h51, h62, h73, h82]; done) | (simp [xTm, xLeaf, h6, h22, h38, h51, h62, h73, h82, xPs_1 h82]; done))
        · exact absurd (nI_lt (b := 4) (by omega) (by decide)) h51
      · refine j_aload_n E dX1_readTerm_41 rfl rfl ?_
        refine j_bipush (v := 8) E dX1_readTerm_42 (by decide) ?_
        refine j_callV0 (ci := 4) (n := 1) E (k_X4_addStep hR0) dX1_readTerm_44 gX1_readTerm_X4_addStep rfl (by decide +kernel) ⟨rfl, rfl, by simp only [rT, rC]; omega, by simp only [rT, rC]; omega⟩ ⟨Nat.zero_le _, Nat.zero_le _⟩ (by assumption) (by assumption) rfl rfl rfl (Nat.le_of_ble_eq_true rfl) rfl ?_
        refine j_iconst (v := 1) E dX1_readTerm_47 (by decide) ?_
        exact j_zret E dX1_readTerm_48 rfl (by simp [xTm, xLeaf, h6, h22, h38]) rfl (by simp [xTm, xLeaf, h6, h22, h38])
    · refine j_aload_n E dX1_readTerm_25 rfl rfl ?_
      refine j_aload_n E dX1_readTerm_26 rfl rfl ?_
      refine j_iconst (v := 4) E dX1_readTerm_27 (by decide) ?_
      refine j_callV1 (ci := 1) (n := 2) E (k_X1_readZone hW0 hR0) dX1_readTerm_28 gX1_readTerm_X1_readZone rfl (by decide +kernel) ⟨rfl, rfl, by simp only [rT, rC]; omega, by simp only [rT, rC]; omega⟩ ⟨Nat.zero_le _, Nat.zero_le _⟩ (by assumption) (by assumption) rfl rfl rfl (Nat.le_of_ble_eq_true rfl) rfl ?_
      exact j_zret E dX1_readTerm_31 (nz01 (xZn_01 _ _ _ _ _ _)) (by simp [xTm, xLeaf, h6, h22]) rfl (by simp [xTm, xLeaf, h6, h22])
  · refine j_aload_n E dX1_readTerm_9 rfl rfl ?_
    refine j_aload_n E dX1_readTerm_10 rfl rfl ?_
    refine j_iconst (v := 0) E dX1_readTerm_11 (by decide) ?_
    refine j_callV1 (ci := 1) (n := 2) E (k_X1_readZone hW0 hR0) dX1_readTerm_12 gX1_readTerm_X1_readZone rfl (by decide +kernel) ⟨rfl, rfl, by simp only [rT, rC]; omega, by simp only [rT, rC]; omega⟩ ⟨Nat.zero_le _, Nat.zero_le _⟩ (by assumption) (by assumption) rfl rfl rfl (Nat.le_of_ble_eq_true rfl) rfl ?_
    exact j_zret E dX1_readTerm_15 (nz01 (xZn_01 _ _ _ _ _ _)) (by simp [xTm, xLeaf, h6]) rfl (by simp [xTm, xLeaf, h6])

set_option maxHeartbeats 1600000 in
set_option maxRecDepth 100000 in
theorem kl_cond {C : jC} {X : va_W} {P T r s : Nat} (hW : wPad (jG C) P T) (hR : wRule (jG C) r s) {f : Nat} (E : jE C cX1_readCondition 5 wsX1_readCondition RX1 (some .boolean) (rC f)) (hT : ∀ M : pM, jK (jl C) yX1_readTerm wsX1_readTerm (rT f) (jD C) (jcy C) X (jG C) M [.ref P, .ref r, .int (nI (4 - f))] (some (.int (xTm P T r s f M).1)) X (xTm P T r s f M).2) : ∀ (n i : Nat) (M : pM), i + n = 20 → jW C 5 13 [(0, .ref P), (1, .ref r), (2, .int (nI (4 - f))), (3, .int (nI i))] [] X M 0 0 (jZ C X (xCl P T r s (xTm P T r s f) n M).2 (some (.int (xCl P T r s (xTm P T r s f) n M).1)) 0 0) := by
  have hW0 := hW
  have hR0 := hR
  obtain ⟨hP1, hP2, hP3, hT1, hT2, hT3⟩ := hW
  obtain ⟨hr1, hr2, hr3, hs1, hs2, hs3⟩ := hR
  have hinX1 : ∀ w ∈ u_ws RX1 TX1 3, w ∈ wsX1_readCondition := by decide +kernel
  intro n
  induction n with
  | zero =>
    intro i M hn
    obtain rfl : i = 20 := by omega
    refine j_iload_n E dX1_readCondition_13 rfl rfl ?_
    refine j_bipush (v := 20) E dX1_readCondition_14 (by decide) ?_
    refine j_icmp_ge (tgt := 91) E dX1_readCondition_16 (by decide) (fun h => ?_) (fun h => absurd (by decide) h)
    refine j_iconst (v := 1) E dX1_readCondition_91 (by decide) ?_
    exact j_zret E dX1_readCondition_92 rfl (by first | (simp [xCl, xOp, true_and]; done) | (exfalso; simp; done)) rfl (by first | (simp [xCl, xOp, true_and]; done) | (exfalso; simp; done))
  | succ n ih =>
    intro i M hn
    refine j_iload_n E dX1_readCondition_13 rfl rfl ?_
    refine j_bipush (v := 20) E dX1_readCondition_14 (by decide) ?_
    refine j_icmp_ge (tgt := 91) E dX1_readCondition_16 (by decide) (fun h16 => ?_) (fun h16 => ?_)
    · exact absurd h16 (nI_ge (b := 20) (by omega) (by decide))
    · refine j_aload_n E dX1_readCondition_19 rfl rfl ?_
      refine j_bipush (v := 38) E dX1_readCondition_20 (by decide) ?_
      refine j_callV1 (ci := 1) (n := 1) E (k_X1_sees hW0) dX1_readCondition_22 gX1_readCondition_X1_sees rfl (by decide +kernel) ⟨rfl, rfl, by simp only [rT, rC]; omega, by simp only [rT, rC]; omega⟩ ⟨Nat.zero_le _, Nat.zero_le _⟩ (by assumption) (by assumption) rfl rfl rfl (Nat.le_of_ble_eq_true rfl) rfl ?_
      refine j_if_eq (tgt := 33) E dX1_readCondition_25 (by decide) (fun h25 => ?_) (fun h25 => ?_)
      · refine j_aload_n E dX1_readCondition_33 rfl rfl ?_
        refine j_bipush (v := 124) E dX1_readCondition_34 (by decide) ?_
        refine j_callV1 (ci := 1) (n := 1) E (k_X1_sees hW0) dX1_readCondition_36 gX1_readCondition_X1_sees rfl (by decide +kernel) ⟨rfl, rfl, by simp only [rT, rC]; omega, by simp only [rT, rC]; omega⟩ ⟨Nat.zero_le _, Nat.zero_le _⟩ (by assumption) (by assumption) rfl rfl rfl (Nat.le_of_ble_eq_true rfl) rfl ?_
        refine j_if_eq (tgt := 47) E dX1_readCondition_39 (by decide) (fun h39 => ?_) (fun h39 => ?_)
        · refine j_iconst (v := -1) E dX1_readCondition_47 (by decide) ?_
          refine j_istore E dX1_readCondition_48 (by decide) ?_
          refine j_iload E dX1_readCondition_50 rfl ?_
          refine j_iconst (v := -1) E dX1_readCondition_52 (by decide) ?_
          refine j_icmp_ne (tgt := 58) E dX1_readCondition_53 (by decide) (fun h53 => ?_) (fun h53 => ?_)
          · refine j_aload_n E dX1_readCondition_58 rfl rfl ?_
            refine j_dup E dX1_readCondition_59 rfl ?_
            refine j_getI (ci := 1) (k := 2) (Cn := RX1) (T := TX1) (N := 3) E dX1_readCondition_60 (by assumption) (by assumption) rfl (by decide) hinX1 (by decide +kernel) rfl ?_
            refine j_iconst (v := 1) E dX1_readCondition_63 (by decide) ?_
            refine j_iadd E dX1_readCondition_64 ?_
            refine j_putI (ci := 1) (k := 2) (Cn := RX1) (T := TX1) (N := 3) E dX1_readCondition_65 (by assumption) (by assumption) rfl (by decide) hinX1 (by decide +kernel) rfl tyX1 tyX1_ok nmX1 rfl rfl rfl rfl ?_
            refine j_aload_n E dX1_readCondition_68 rfl rfl ?_
            refine j_aload_n E dX1_readCondition_69 rfl rfl ?_
            refine j_iload_n E dX1_readCondition_70 rfl rfl ?_
            refine j_callV1 (ci := 1) (n := 2) E (hT _) dX1_readCondition_71 gX1_readCondition_X1_readTerm rfl (by decide +kernel) ⟨rfl, rfl, by simp only [rT, rC]; omega, by simp only [rT, rC]; omega⟩ ⟨Nat.zero_le _, Nat.zero_le _⟩ (by assumption) (by assumption) rfl rfl rfl (Nat.le_of_ble_eq_true rfl) rfl ?_
            refine j_if_ne (tgt := 79) E dX1_readCondition_74 (by decide) (fun h74 => ?_) (fun h74 => ?_)
            · refine j_aload_n E dX1_readCondition_79 rfl rfl ?_
              refine j_iload E dX1_readCondition_80 rfl ?_
              refine j_callV0 (ci := 4) (n := 1) E (k_X4_addStep hR0) dX1_readCondition_82 gX1_readCondition_X4_addStep rfl (by decide +kernel) ⟨rfl, rfl, by simp only [rT, rC]; omega, by simp only [rT, rC]; omega⟩ ⟨Nat.zero_le _, Nat.zero_le _⟩ (by assumption) (by assumption) rfl rfl rfl (Nat.le_of_ble_eq_true rfl) rfl ?_
              refine j_iinc E dX1_readCondition_85 rfl (by decide) ?_
              refine j_goto (tgt := 13) E dX1_readCondition_88 (by decide) ?_
              exact j_lv [0, 1, 2, 3] rfl (by rw [nI_inc]; exact j_r (by first | (simp [xCl, xOp, h16, h25, h39, h53, h74]; done) | (exfalso; revert h16 h25 h39 h53 h74; simp; done)) (by first | (simp [xCl, xOp, h16, h25, h39, h53, h74]; done) | (exfalso; revert h16 h25 h39 h53 h74; simp; done)) (ih (i + 1) _ (by omega)))
            · refine j_iconst (v := 0) E dX1_readCondition_77 (by decide) ?_
              exact j_zret E dX1_readCondition_78 rfl (by first | (simp [xCl, xOp, h16, h25, h39, h53, h74]; done) | (exfalso; revert h16 h25 h39 h53 h74; simp; done)) rfl (by first | (simp [xCl, xOp, h16, h25, h39, h53, h74]; done) | (exfalso; revert h16 h25 h39 h53 h74; simp; done))
          · refine j_iconst (v := 1) E dX1_readCondition_56 (by decide) ?_
            exact j_zret E dX1_readCondition_57 rfl (by first | (simp [xCl, xOp, h16, h25, h39, h53]; done) | (exfalso; revert h16 h25 h39 h53; simp; done)) rfl (by first | (simp [xCl, xOp, h16, h25, h39, h53]; done) | (exfalso; revert h16 h25 h39 h53; simp; done))
        · refine j_bipush (v := 11) E dX1_readCondition_42 (by decide) ?_
          refine j_goto (tgt := 48) E dX1_readCondition_44 (by decide) ?_
          refine j_istore E dX1_readCondition_48 (by decide) ?_
          refine j_iload E dX1_readCondition_50 rfl ?_
          refine j_iconst (v := -1) E dX1_readCondition_52 (by decide) ?_
          refine j_icmp_ne (tgt := 58) E dX1_readCondition_53 (by decide) (fun h53 => ?_) (fun h53 => ?_)
          · refine j_aload_n E dX1_readCondition_58 rfl rfl ?_
            refine j_dup E dX1_readCondition_59 rfl ?_
            refine j_getI (ci := 1) (k := 2) (Cn := RX1) (T := TX1) (N := 3) E dX1_readCondition_60 (by assumption) (by assumption) rfl (by decide) hinX1 (by decide +kernel) rfl ?_
            refine j_iconst (v := 1) E dX1_readCondition_63 (by decide) ?_
            refine j_iadd E dX1_readCondition_64 ?_
            refine j_putI (ci := 1) (k := 2) (Cn := RX1) (T := TX1) (N := 3) E dX1_readCondition_65 (by assumption) (by assumption) rfl (by decide) hinX1 (by decide +kernel) rfl tyX1 tyX1_ok nmX1 rfl rfl rfl rfl ?_
            refine j_aload_n E dX1_readCondition_68 rfl rfl ?_
            refine j_aload_n E dX1_readCondition_69 rfl rfl ?_
            refine j_iload_n E dX1_readCondition_70 rfl rfl ?_
            refine j_callV1 (ci := 1) (n := 2) E (hT _) dX1_readCondition_71 gX1_readCondition_X1_readTerm rfl (by decide +kernel) ⟨rfl, rfl, by simp only [rT, rC]; omega, by simp only [rT, rC]; omega⟩ ⟨Nat.zero_le _, Nat.zero_le _⟩ (by assumption) (by assumption) rfl rfl rfl (Nat.le_of_ble_eq_true rfl) rfl ?_
            refine j_if_ne (tgt := 79) E dX1_readCondition_74 (by decide) (fun h74 => ?_) (fun h74 => ?_)
            · refine j_aload_n E dX1_readCondition_79 rfl rfl ?_
              refine j_iload E dX1_readCondition_80 rfl ?_
              refine j_callV0 (ci := 4) (n := 1) E (k_X4_addStep hR0) dX1_readCondition_82 gX1_readCondition_X4_addStep rfl (by decide +kernel) ⟨rfl, rfl, by simp only [rT, rC]; omega, by simp only [rT, rC]; omega⟩ ⟨Nat.zero_le _, Nat.zero_le _⟩ (by assumption) (by assumption) rfl rfl rfl (Nat.le_of_ble_eq_true rfl) rfl ?_
              refine j_iinc E dX1_readCondition_85 rfl (by decide) ?_
              refine j_goto (tgt := 13) E dX1_readCondition_88 (by decide) ?_
              exact j_lv [0, 1, 2, 3] rfl (by rw [nI_inc]; exact j_r (by first | (simp [xCl, xOp, h16, h25, h39, h53, h74]; done) | (exfalso; revert h16 h25 h39 h53 h74; simp; done)) (by first | (simp [xCl, xOp, h16, h25, h39, h53, h74]; done) | (exfalso; revert h16 h25 h39 h53 h74; simp; done)) (ih (i + 1) _ (by omega)))
            · refine j_iconst (v := 0) E dX1_readCondition_77 (by decide) ?_
              exact j_zret E dX1_readCondition_78 rfl (by first | (simp [xCl, xOp, h16, h25, h39, h53, h74]; done) | (exfalso; revert h16 h25 h39 h53 h74; simp; done)) rfl (by first | (simp [xCl, xOp, h16, h25, h39, h53, h74]; done) | (exfalso; revert h16 h25 h39 h53 h74; simp; done))
          · refine j_iconst (v := 1) E dX1_readCondition_56 (by decide) ?_
            exact j_zret E dX1_readCondition_57 rfl (by first | (simp [xCl, xOp, h16, h25, h39, h53]; done) | (exfalso; revert h16 h25 h39 h53; simp; done)) rfl (by first | (simp [xCl, xOp, h16, h25, h39, h53]; done) | (exfalso; revert h16 h25 h39 h53; simp; done))
      · refine j_bipush (v := 10) E dX1_readCondition_28 (by decide) ?_
        refine j_goto (tgt := 48) E dX1_readCondition_30 (by decide) ?_
        refine j_istore E dX1_readCondition_48 (by decide) ?_
        refine j_iload E dX1_readCondition_50 rfl ?_
        refine j_iconst (v := -1) E dX1_readCondition_52 (by decide) ?_
        refine j_icmp_ne (tgt := 58) E dX1_readCondition_53 (by decide) (fun h53 => ?_) (fun h53 => ?_)
        · refine j_aload_n E dX1_readCondition_58 rfl rfl ?_
          refine j_dup E dX1_readCondition_59 rfl ?_
          refine j_getI (ci := 1) (k := 2) (Cn := RX1) (T := TX1) (N := 3) E dX1_readCondition_60 (by assumption) (by assumption) rfl (by decide) hinX1 (by decide +kernel) rfl ?_
          refine j_iconst (v := 1) E dX1_readCondition_63 (by decide) ?_
          refine j_iadd E dX1_readCondition_64 ?_
          refine j_putI (ci := 1) (k := 2) (Cn := RX1) (T := TX1) (N := 3) E dX1_readCondition_65 (by assumption) (by assumption) rfl (by decide) hinX1 (by decide +kernel) rfl tyX1 tyX1_ok nmX1 rfl rfl rfl rfl ?_
          refine j_aload_n E dX1_readCondition_68 rfl rfl ?_
          refine j_aload_n E dX1_readCondition_69 rfl rfl ?_
          refine j_iload_n E dX1_readCondition_70 rfl rfl ?_
          refine j_callV1 (ci := 1) (n := 2) E (hT _) dX1_readCondition_71 gX1_readCondition_X1_readTerm rfl (by decide +kernel) ⟨rfl, rfl, by simp only [rT, rC]; omega, by simp only [rT, rC]; omega⟩ ⟨Nat.zero_le _, Nat.zero_le _⟩ (by assumption) (by assumption) rfl rfl rfl (Nat.le_of_ble_eq_true rfl) rfl ?_
          refine j_if_ne (tgt := 79) E dX1_readCondition_74 (by decide) (fun h74 => ?_) (fun h74 => ?_)
          · refine j_aload_n E dX1_readCondition_79 rfl rfl ?_
            refine j_iload E dX1_readCondition_80 rfl ?_
            refine j_callV0 (ci := 4) (n := 1) E (k_X4_addStep hR0) dX1_readCondition_82 gX1_readCondition_X4_addStep rfl (by decide +kernel) ⟨rfl, rfl, by simp only [rT, rC]; omega, by simp only [rT, rC]; omega⟩ ⟨Nat.zero_le _, Nat.zero_le _⟩ (by assumption) (by assumption) rfl rfl rfl (Nat.le_of_ble_eq_true rfl) rfl ?_
            refine j_iinc E dX1_readCondition_85 rfl (by decide) ?_
            refine j_goto (tgt := 13) E dX1_readCondition_88 (by decide) ?_
            exact j_lv [0, 1, 2, 3] rfl (by rw [nI_inc]; exact j_r (by first | (simp [xCl, xOp, h16, h25, h53, h74]; done) | (exfalso; revert h16 h25 h53 h74; simp; done)) (by first | (simp [xCl, xOp, h16, h25, h53, h74]; done) | (exfalso; revert h16 h25 h53 h74; simp; done)) (ih (i + 1) _ (by omega)))
          · refine j_iconst (v := 0) E dX1_readCondition_77 (by decide) ?_
            exact j_zret E dX1_readCondition_78 rfl (by first | (simp [xCl, xOp, h16, h25, h53, h74]; done) | (exfalso; revert h16 h25 h53 h74; simp; done)) rfl (by first | (simp [xCl, xOp, h16, h25, h53, h74]; done) | (exfalso; revert h16 h25 h53 h74; simp; done))
        · refine j_iconst (v := 1) E dX1_readCondition_56 (by decide) ?_
          exact j_zret E dX1_readCondition_57 rfl (by first | (simp [xCl, xOp, h16, h25, h53]; done) | (exfalso; revert h16 h25 h53; simp; done)) rfl (by first | (simp [xCl, xOp, h16, h25, h53]; done) | (exfalso; revert h16 h25 h53; simp; done))

set_option maxHeartbeats 1600000 in
set_option maxRecDepth 100000 in
theorem kc_of {l : Launch} {D : va_G} {cy : Nat → ClassId} {X : va_W} {G : pG} {P T r s : Nat} (hW : wPad G P T) (hR : wRule G r s) {f : Nat} (hT : ∀ M : pM, jK l yX1_readTerm wsX1_readTerm (rT f) D cy X G M [.ref P, .ref r, .int (nI (4 - f))] (some (.int (xTm P T r s f M).1)) X (xTm P T r s f M).2) (M : pM) : jK l yX1_readCondition wsX1_readCondition (rC f) D cy X G M [.ref P, .ref r, .int (nI (4 - f))] (some (.int (xCn P T r s (xTm P T r s f) M).1)) X (xCn P T r s (xTm P T r s f) M).2 := by
  refine jK_of (own := RX1) (by decide) rfl rfl (Nat.le_of_ble_eq_true rfl) (fun C E hl hD hcy hG => ?_)
  subst hl; subst hD; subst hcy; subst hG
  have hW0 := hW
  have hR0 := hR
  obtain ⟨hP1, hP2, hP3, hT1, hT2, hT3⟩ := hW
  obtain ⟨hr1, hr2, hr3, hs1, hs2, hs3⟩ := hR
  refine j_aload_n E dX1_readCondition_0 rfl rfl ?_
  refine j_aload_n E dX1_readCondition_1 rfl rfl ?_
  refine j_iload_n E dX1_readCondition_2 rfl rfl ?_
  refine j_callV1 (ci := 1) (n := 2) E (hT _) dX1_readCondition_3 gX1_readCondition_X1_readTerm rfl (by decide +kernel) ⟨rfl, rfl, by simp only [rT, rC]; omega, by simp only [rT, rC]; omega⟩ ⟨Nat.zero_le _, Nat.zero_le _⟩ (by assumption) (by assumption) rfl rfl rfl (Nat.le_of_ble_eq_true rfl) rfl ?_
  refine j_if_ne (tgt := 11) E dX1_readCondition_6 (by decide) (fun h6 => ?_) (fun h6 => ?_)
  · refine j_iconst (v := 0) E dX1_readCondition_11 (by decide) ?_
    refine j_istore_n E dX1_readCondition_12 rfl (by decide) ?_
    exact j_lv [0, 1, 2, 3] rfl (j_r (by simp [xCn, h6]) (by simp [xCn, h6]) (kl_cond hW0 hR0 E hT 20 0 _ (by omega)))
  · refine j_iconst (v := 0) E dX1_readCondition_9 (by decide) ?_
    exact j_zret E dX1_readCondition_10 rfl (by simp [xCn, h6]) rfl (by simp [xCn, h6])

theorem kt_all {l : Launch} {D : va_G} {cy : Nat → ClassId} {X : va_W} {G : pG} {P T r s : Nat} (hW : wPad G P T) (hR : wRule G r s) : ∀ f, f ≤ 4 → ∀ M : pM, jK l yX1_readTerm wsX1_readTerm (rT f) D cy X G M [.ref P, .ref r, .int (nI (4 - f))] (some (.int (xTm P T r s f M).1)) X (xTm P T r s f M).2 := by
  intro f
  induction f with
  | zero => intro _ M; exact kt_0 hW hR M
  | succ f ih => intro h M; exact kt_s hW hR (by omega) (ih (by omega)) (kc_of hW hR (ih (by omega))) M
theorem k_X1_readCondition {l : Launch} {D : va_G} {cy : Nat → ClassId} {X : va_W} {G : pG} {P T r s : Nat} (hW : wPad G P T) (hR : wRule G r s) {M : pM} : jK l yX1_readCondition wsX1_readCondition (rC 4) D cy X G M [.ref P, .ref r, .int 0] (some (.int (xCn P T r s (xTm P T r s 4) M).1)) X (xCn P T r s (xTm P T r s 4) M).2 := kc_of hW hR (kt_all hW hR 4 (Nat.le_refl 4)) M

set_option maxHeartbeats 1600000 in
set_option maxRecDepth 100000 in
theorem k_X1_readInto {l : Launch} {D : va_G} {cy : Nat → ClassId} {X : va_W} {G : pG} {M : pM} {P T r s : Nat} (hW : wPad G P T) (hR : wRule G r s) : jK l yX1_readInto wsX1_readInto ({ frames := 12, cells := 0, slots := 0, locals := 275 } : Room) D cy X G M [.ref P, .ref r] (some (.int (xRI M P T r s).1)) X (xRI M P T r s).2 := by
  refine jK_of (own := RX1) (by decide) rfl rfl (Nat.le_of_ble_eq_true rfl) (fun C E hl hD hcy hG => ?_)
  subst hl; subst hD; subst hcy; subst hG
  have hinX1 : ∀ w ∈ u_ws RX1 TX1 3, w ∈ wsX1_readInto := by decide +kernel
  have hW0 := hW
  have hR0 := hR
  obtain ⟨hP1, hP2, hP3, hT1, hT2, hT3⟩ := hW
  obtain ⟨hr1, hr2, hr3, hs1, hs2, hs3⟩ := hR
  refine j_aload_n E dX1_readInto_0 rfl rfl ?_
  refine j_iconst (v := 0) E dX1_readInto_1 (by decide) ?_
  refine j_putI (ci := 1) (k := 2) (Cn := RX1) (T := TX1) (N := 3) E dX1_readInto_2 hP1 hP2 rfl (by decide) hinX1 (by decide +kernel) rfl tyX1 tyX1_ok nmX1 rfl rfl rfl rfl ?_
  refine j_aload_n E dX1_readInto_5 rfl rfl ?_
  refine j_callV0 (ci := 4) (n := 0) E (k_X4_clear hr1 hr2) dX1_readInto_6 gX1_readInto_X4_clear rfl (by decide +kernel) ⟨rfl, rfl, by decide, by decide⟩ ⟨Nat.zero_le _, Nat.zero_le _⟩ hr1 hr2 rfl rfl rfl (Nat.le_of_ble_eq_true rfl) rfl ?_
  refine j_aload_n E dX1_readInto_9 rfl rfl ?_
  refine j_aload_n E dX1_readInto_10 rfl rfl ?_
  refine j_iconst (v := 0) E dX1_readInto_11 (by decide) ?_
  refine j_callV1 (ci := 1) (n := 2) E (k_X1_readCondition hW0 hR0) dX1_readInto_12 gX1_readInto_X1_readCondition rfl (by decide +kernel) ⟨rfl, rfl, by decide, by decide⟩ ⟨Nat.zero_le _, Nat.zero_le _⟩ hP1 hP2 rfl rfl rfl (Nat.le_of_ble_eq_true rfl) rfl ?_
  refine j_if_eq (tgt := 41) E dX1_readInto_15 (by decide) (fun h15 => ?_) (fun h15 => ?_)
  · refine j_iconst (v := 0) E dX1_readInto_41 (by decide) ?_
    refine j_istore_n E dX1_readInto_42 rfl (by decide) ?_
    refine j_iload_n E dX1_readInto_43 rfl rfl ?_
    refine j_if_eq (tgt := 51) E dX1_readInto_44 (by decide) (fun h44 => ?_) (fun h44 => ?_)
    · refine j_aload_n E dX1_readInto_51 rfl rfl ?_
      refine j_getI (ci := 1) (k := 2) (Cn := RX1) (T := TX1) (N := 3) E dX1_readInto_52 hP1 hP2 rfl (by decide) hinX1 (by decide +kernel) rfl ?_
      exact j_iret E dX1_readInto_55 (by first | (simp [xRI, xI1, h15, h44]; done) | (exfalso; revert h15 h44; simp; done)) rfl (by first | (simp [xRI, xI1, h15, h44]; done) | (exfalso; revert h15 h44; simp; done))
    · refine j_iconst (v := -1) E dX1_readInto_47 (by decide) ?_
      refine j_goto (tgt := 55) E dX1_readInto_48 (by decide) ?_
      exact j_iret E dX1_readInto_55 (by first | (simp [xRI, xI1, h15, h44]; done) | (exfalso; revert h15 h44; simp; done)) rfl (by first | (simp [xRI, xI1, h15, h44]; done) | (exfalso; revert h15 h44; simp; done))
  · refine j_aload_n E dX1_readInto_18 rfl rfl ?_
    refine j_aload_n E dX1_readInto_19 rfl rfl ?_
    refine j_callV1 (ci := 1) (n := 1) E (k_X1_readTarget hW0 hR0) dX1_readInto_20 gX1_readInto_X1_readTarget rfl (by decide +kernel) ⟨rfl, rfl, by decide, by decide⟩ ⟨Nat.zero_le _, Nat.zero_le _⟩ hP1 hP2 rfl rfl rfl (Nat.le_of_ble_eq_true rfl) rfl ?_
    refine j_if_eq (tgt := 41) E dX1_readInto_23 (by decide) (fun h23 => ?_) (fun h23 => ?_)
    · refine j_iconst (v := 0) E dX1_readInto_41 (by decide) ?_
      refine j_istore_n E dX1_readInto_42 rfl (by decide) ?_
      refine j_iload_n E dX1_readInto_43 rfl rfl ?_
      refine j_if_eq (tgt := 51) E dX1_readInto_44 (by decide) (fun h44 => ?_) (fun h44 => ?_)
      · refine j_aload_n E dX1_readInto_51 rfl rfl ?_
        refine j_getI (ci := 1) (k := 2) (Cn := RX1) (T := TX1) (N := 3) E dX1_readInto_52 hP1 hP2 rfl (by decide) hinX1 (by decide +kernel) rfl ?_
        exact j_iret E dX1_readInto_55 (by first | (simp [xRI, xI1, h15, h23, h44]; done) | (exfalso; revert h15 h23 h44; simp; done)) rfl (by first | (simp [xRI, xI1, h15, h23, h44]; done) | (exfalso; revert h15 h23 h44; simp; done))
      · refine j_iconst (v := -1) E dX1_readInto_47 (by decide) ?_
        refine j_goto (tgt := 55) E dX1_readInto_48 (by decide) ?_
        exact j_iret E dX1_readInto_55 (by first | (simp [xRI, xI1, h15, h23, h44]; done) | (exfalso; revert h15 h23 h44; simp; done)) rfl (by first | (simp [xRI, xI1, h15, h23, h44]; done) | (exfalso; revert h15 h23 h44; simp; done))
    · refine j_aload_n E dX1_readInto_26 rfl rfl ?_
      refine j_getI (ci := 1) (k := 2) (Cn := RX1) (T := TX1) (N := 3) E dX1_readInto_27 hP1 hP2 rfl (by decide) hinX1 (by decide +kernel) rfl ?_
      refine j_aload_n E dX1_readInto_30 rfl rfl ?_
      refine j_getI (ci := 1) (k := 1) (Cn := RX1) (T := TX1) (N := 3) E dX1_readInto_31 hP1 hP2 rfl (by decide) hinX1 (by decide +kernel) rfl ?_
      refine j_icmp_ne (tgt := 41) E dX1_readInto_34 (by decide) (fun h34 => ?_) (fun h34 => ?_)
      · refine j_iconst (v := 0) E dX1_readInto_41 (by decide) ?_
        refine j_istore_n E dX1_readInto_42 rfl (by decide) ?_
        refine j_iload_n E dX1_readInto_43 rfl rfl ?_
        refine j_if_eq (tgt := 51) E dX1_readInto_44 (by decide) (fun h44 => ?_) (fun h44 => ?_)
        · refine j_aload_n E dX1_readInto_51 rfl rfl ?_
          refine j_getI (ci := 1) (k := 2) (Cn := RX1) (T := TX1) (N := 3) E dX1_readInto_52 hP1 hP2 rfl (by decide) hinX1 (by decide +kernel) rfl ?_
          exact j_iret E dX1_readInto_55 (by first | (simp [xRI, xI1, h15, h23, h34, h44]; done) | (exfalso; revert h15 h23 h34 h44; simp; done)) rfl (by first | (simp [xRI, xI1, h15, h23, h34, h44]; done) | (exfalso; revert h15 h23 h34 h44; simp; done))
        · refine j_iconst (v := -1) E dX1_readInto_47 (by decide) ?_
          refine j_goto (tgt := 55) E dX1_readInto_48 (by decide) ?_
          exact j_iret E dX1_readInto_55 (by first | (simp [xRI, xI1, h15, h23, h34, h44]; done) | (exfalso; revert h15 h23 h34 h44; simp; done)) rfl (by first | (simp [xRI, xI1, h15, h23, h34, h44]; done) | (exfalso; revert h15 h23 h34 h44; simp; done))
      · refine j_iconst (v := 1) E dX1_readInto_37 (by decide) ?_
        refine j_goto (tgt := 42) E dX1_readInto_38 (by decide) ?_
        refine j_istore_n E dX1_readInto_42 rfl (by decide) ?_
        refine j_iload_n E dX1_readInto_43 rfl rfl ?_
        refine j_if_eq (tgt := 51) E dX1_readInto_44 (by decide) (fun h44 => ?_) (fun h44 => ?_)
        · refine j_aload_n E dX1_readInto_51 rfl rfl ?_
          refine j_getI (ci := 1) (k := 2) (Cn := RX1) (T := TX1) (N := 3) E dX1_readInto_52 hP1 hP2 rfl (by decide) hinX1 (by decide +kernel) rfl ?_
          exact j_iret E dX1_readInto_55 (by first | (simp [xRI, xI1, h15, h23, h34, h44]; done) | (exfalso; revert h15 h23 h34 h44; simp; done)) rfl (by first | (simp [xRI, xI1, h15, h23, h34, h44]; done) | (exfalso; revert h15 h23 h34 h44; simp; done))
        · refine j_iconst (v := -1) E dX1_readInto_47 (by decide) ?_
          refine j_goto (tgt := 55) E dX1_readInto_48 (by decide) ?_
          exact j_iret E dX1_readInto_55 (by first | (simp [xRI, xI1, h15, h23, h34, h44]; done) | (exfalso; revert h15 h23 h34 h44; simp; done)) rfl (by first | (simp [xRI, xI1, h15, h23, h34, h44]; done) | (exfalso; revert h15 h23 h34 h44; simp; done))
