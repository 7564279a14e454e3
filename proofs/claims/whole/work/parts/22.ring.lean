/-! FirePanel$Ring: 0 places, 1 wires. -/
theorem j_r {C : jC} {nL pc kc ks kd kt : Nat} {lv : List (Nat × Value)} {st : List Value} {X X2 : va_W} {M M2 M3 : pM} {r r2 : Option Value} (h : r = r2) (hM : M2 = M3) (k : jW C nL pc lv st X M kc ks (jZ C X2 M3 r2 kd kt)) : jW C nL pc lv st X M kc ks (jZ C X2 M2 r kd kt) := by
  subst h; subst hM; exact k
def wRing (G : pG) (r pa wa : Nat) (pl : Nat → Nat) : Prop := (r ∈ G.1 ∧ G.2.1 r = 3 ∧ G.2.2.2 r 0 = some pa ∧ G.2.2.2 r 1 = some wa) ∧ (pa ∈ G.1 ∧ G.2.1 pa = 12 ∧ G.2.2.1 pa = 16) ∧ (wa ∈ G.1 ∧ G.2.1 wa = 10 ∧ G.2.2.1 wa = 17) ∧ ∀ i, i < 16 → G.2.2.2 pa i = some (pl i) ∧ pl i ∈ G.1 ∧ G.2.1 (pl i) = 2
def xEnds (M : pM) (pl : Nat → Nat) (k : Nat) : Int32 := if 16 ≤ nI k then 1 else if M.1 (pl k) 0 = 4 then 1 else 0
def xS1 (M : pM) (wa k : Nat) (s : Int32) : Int32 := if M.1 wa k = 0 then s ||| (1 <<< (nI k &&& 31)) else s
def xD1 (M : pM) (wa k : Nat) (d : Int32) : Int32 := if d = 0 then (if M.1 wa k = 2 then 1 else 0) else 1
def xPW (M : pM) (pl : Nat → Nat) (wa : Nat) : Nat → Nat → Int32 → Int32 → Int32 → Int32
  | 0, _, p, _, _ => p
  | n + 1, k, p, s, d => if xEnds M pl k = 0 then xPW M pl wa n (k + 1) p (xS1 M wa k s) (xD1 M wa k d) else xPW M pl wa n (k + 1) (p ||| (if xD1 M wa k d = 0 then xS1 M wa k s else 0)) 0 0
def xR1 (w : Int32) : Nat → Nat → Int32 → Int32
  | 0, _, r => r
  | n + 1, p, r => if 16 ≤ nI p then r else if (w >>> (nI p &&& 31)) &&& 1 = 0 then r else xR1 w n (p + 1) (r ||| (1 <<< (nI p &&& 31)))
def xR2 (w : Int32) : Nat → Int32 → Int32
  | 0, r => r
  | q + 1, r => if (w >>> ((nI q + 1) &&& 31)) &&& 1 = 0 then r else xR2 w q (r ||| (1 <<< (nI q &&& 31)))
def pmN : Nat → Int32
  | 0 => -1
  | q + 1 => nI q
theorem pmN_dec (q : Nat) : nI q + Int32.ofInt (-1) = pmN q := by
  cases q with
  | zero => rfl
  | succ q => exact pk_m1 q
def xReach (M : pM) (pl : Nat → Nat) (wa : Nat) : Int32 := xR2 (xPW M pl wa 17 0 0 0 0) 16 (xR1 (xPW M pl wa 17 0 0 0 0) 17 0 0)

set_option maxHeartbeats 4000000 in
set_option maxRecDepth 100000 in
theorem k_X3_endsStretch {l : Launch} {D : va_G} {cy : Nat → ClassId} {X : va_W} {G : pG} {M : pM} {r pa wa k : Nat} {pl : Nat → Nat} (hW : wRing G r pa wa pl) (hk : k < 17) : jK l yX3_endsStretch wsX3_endsStretch ({ frames := 0, cells := 0, slots := 0, locals := 0 } : Room) D cy X G M [.ref r, .int (nI k)] (some (.int (xEnds M pl k))) X M := by
  refine jK_of (own := RX3) (by decide) rfl rfl (Nat.le_of_ble_eq_true rfl) (fun C E hl hD hcy hG => ?_)
  subst hl; subst hD; subst hcy; subst hG
  have hinX2 : ∀ w ∈ u_ws RX2 TX2 11, w ∈ wsX3_endsStretch := by decide +kernel
  have hinX3 : ∀ w ∈ u_ws RX3 TX3 2, w ∈ wsX3_endsStretch := by decide +kernel
  obtain ⟨⟨hr1, hr2, hr3, hr4⟩, ⟨hp1, hp2, hp3⟩, ⟨hw1, hw2, hw3⟩, hpl⟩ := hW
  refine j_iload_n E dX3_endsStretch_0 rfl rfl ?_
  refine j_if_lt (tgt := 23) E dX3_endsStretch_1 (by decide) (fun h1 => ?_) (fun h1 => ?_)
  · exact absurd h1 (nI_pos (by omega))
  · refine j_iload_n E dX3_endsStretch_4 rfl rfl ?_
    refine j_bipush (v := 16) E dX3_endsStretch_5 (by decide) ?_
    refine j_icmp_ge (tgt := 23) E dX3_endsStretch_7 (by decide) (fun h7 => ?_) (fun h7 => ?_)
    · refine j_iconst (v := 1) E dX3_endsStretch_23 (by decide) ?_
      refine j_goto (tgt := 28) E dX3_endsStretch_24 (by decide) ?_
      exact j_zret E dX3_endsStretch_28 rfl (by first | rfl | (simp [xEnds, h1, h7]; done)) rfl (by first | rfl | (simp [xEnds, h1, h7]; done))
    · have hk16 : k < 16 := by
        rcases Nat.lt_or_ge k 16 with q | q
        · exact q
        · exact absurd (nI_le q (by omega)) h7
      obtain ⟨q1, q2, q3⟩ := hpl k hk16
      refine j_aload_n E dX3_endsStretch_10 rfl rfl ?_
      refine j_getP (ci := 3) (k := 0) (Cn := RX3) (T := TX3) (N := 2) E dX3_endsStretch_11 (by assumption) (by assumption) rfl (by decide) hinX3 (by decide +kernel) rfl (by assumption) ?_
      refine j_iload_n E dX3_endsStretch_14 rfl rfl ?_
      refine j_aldP E dX3_endsStretch_15 (by assumption) (by assumption) rfl hk16 (by decide) (by assumption) (by assumption) ?_
      refine j_getI (ci := 2) (k := 0) (Cn := RX2) (T := TX2) (N := 11) E dX3_endsStretch_16 (by assumption) (by assumption) rfl (by decide) hinX2 (by decide +kernel) rfl ?_
      refine j_iconst (v := 4) E dX3_endsStretch_19 (by decide) ?_
      refine j_icmp_ne (tgt := 27) E dX3_endsStretch_20 (by decide) (fun h20 => ?_) (fun h20 => ?_)
      · refine j_iconst (v := 0) E dX3_endsStretch_27 (by decide) ?_
        exact j_zret E dX3_endsStretch_28 rfl (by first | rfl | (simp [xEnds, h1, h7, h20]; done)) rfl (by first | rfl | (simp [xEnds, h1, h7, h20]; done))
      · refine j_iconst (v := 1) E dX3_endsStretch_23 (by decide) ?_
        refine j_goto (tgt := 28) E dX3_endsStretch_24 (by decide) ?_
        exact j_zret E dX3_endsStretch_28 rfl (by first | rfl | (simp [xEnds, h1, h7, h20]; done)) rfl (by first | rfl | (simp [xEnds, h1, h7, h20]; done))

set_option maxHeartbeats 4000000 in
set_option maxRecDepth 100000 in
theorem kl_X3_passableWires_9 {C : jC} (E : jE C cX3_passableWires 5 wsX3_passableWires RX3 (some .int) ({ frames := 1, cells := 0, slots := 0, locals := 21 } : Room)) {X : va_W} {M : pM} {r pa wa : Nat} {pl : Nat → Nat} (hW : wRing (jG C) r pa wa pl) : ∀ (n k : Nat) (p s d : Int32), k + n = 17 → jW C 5 9 [(0, .ref r), (1, .int p), (2, .int s), (3, .int d), (4, .int (nI k))] [] X M 0 0 (jZ C X M (some (.int (xPW M pl wa n k p s d))) 0 0) := by
  have hinX3 : ∀ w ∈ u_ws RX3 TX3 2, w ∈ wsX3_passableWires := by decide +kernel
  have hW0 := hW
  obtain ⟨⟨hr1, hr2, hr3, hr4⟩, ⟨hp1, hp2, hp3⟩, ⟨hw1, hw2, hw3⟩, hpl⟩ := hW
  intro n
  induction n with
  | zero =>
    intro k p s d hn
    obtain rfl : k = 17 := by omega
    refine j_iload E dX3_passableWires_9 rfl ?_
    refine j_bipush (v := 17) E dX3_passableWires_11 (by decide) ?_
    refine j_icmp_ge (tgt := 85) E dX3_passableWires_13 (by decide) (fun h => ?_) (fun h => absurd (by decide) h)
    refine j_iload_n E dX3_passableWires_85 rfl rfl ?_
    exact j_iret E dX3_passableWires_86 (by first | rfl | (simp [xPW, true_and]; done)) rfl (by first | rfl | (simp [xPW, true_and]; done))
  | succ n ih =>
    intro k p s d hn
    have hk : k < 17 := by omega
    refine j_iload E dX3_passableWires_9 rfl ?_
    refine j_bipush (v := 17) E dX3_passableWires_11 (by decide) ?_
    refine j_icmp_ge (tgt := 85) E dX3_passableWires_13 (by decide) (fun h13 => ?_) (fun h13 => ?_)
    · exact absurd h13 (nI_ge hk (by decide))
    · refine j_aload_n E dX3_passableWires_16 rfl rfl ?_
      refine j_getP (ci := 3) (k := 1) (Cn := RX3) (T := TX3) (N := 2) E dX3_passableWires_17 (by assumption) (by assumption) rfl (by decide) hinX3 (by decide +kernel) rfl (by assumption) ?_
      refine j_iload E dX3_passableWires_20 rfl ?_
      refine j_iald E dX3_passableWires_22 (by assumption) (by assumption) rfl hk (by decide) (by assumption) ?_
      refine j_if_ne (tgt := 33) E dX3_passableWires_23 (by decide) (fun h23 => ?_) (fun h23 => ?_)
      · refine j_iload_n E dX3_passableWires_33 rfl rfl ?_
        refine j_if_ne (tgt := 48) E dX3_passableWires_34 (by decide) (fun h34 => ?_) (fun h34 => ?_)
        · refine j_iconst (v := 1) E dX3_passableWires_48 (by decide) ?_
          refine j_goto (tgt := 53) E dX3_passableWires_49 (by decide) ?_
          refine j_istore_n E dX3_passableWires_53 rfl (by decide) ?_
          refine j_aload_n E dX3_passableWires_54 rfl rfl ?_
          refine j_iload E dX3_passableWires_55 rfl ?_
          refine j_callV1 (ci := 3) (n := 1) E (k_X3_endsStretch hW0 hk) dX3_passableWires_57 gX3_passableWires_X3_endsStretch rfl (by decide +kernel) ⟨rfl, rfl, by decide, by decide⟩ ⟨Nat.zero_le _, Nat.zero_le _⟩ (by assumption) (by assumption) rfl rfl rfl (Nat.le_of_ble_eq_true rfl) rfl ?_
          refine j_if_eq (tgt := 79) E dX3_passableWires_60 (by decide) (fun h60 => ?_) (fun h60 => ?_)
          · refine j_iinc E dX3_passableWires_79 rfl (by decide) ?_
            refine j_goto (tgt := 9) E dX3_passableWires_82 (by decide) ?_
            exact j_lv [0, 1, 2, 3, 4] rfl (by rw [nI_inc]; exact j_r (by first | (simp [xPW, xS1, xD1, *]; done) | (exfalso; simp_all; done)) rfl (ih (k + 1) _ _ _ (by omega)))
          · refine j_iload_n E dX3_passableWires_63 rfl rfl ?_
            refine j_iload_n E dX3_passableWires_64 rfl rfl ?_
            refine j_if_eq (tgt := 72) E dX3_passableWires_65 (by decide) (fun h65 => ?_) (fun h65 => ?_)
            · refine j_iload_n E dX3_passableWires_72 rfl rfl ?_
              refine j_ior E dX3_passableWires_73 ?_
              refine j_istore_n E dX3_passableWires_74 rfl (by decide) ?_
              refine j_iconst (v := 0) E dX3_passableWires_75 (by decide) ?_
              refine j_istore_n E dX3_passableWires_76 rfl (by decide) ?_
              refine j_iconst (v := 0) E dX3_passableWires_77 (by decide) ?_
              refine j_istore_n E dX3_passableWires_78 rfl (by decide) ?_
              refine j_iinc E dX3_passableWires_79 rfl (by decide) ?_
              refine j_goto (tgt := 9) E dX3_passableWires_82 (by decide) ?_
              exact j_lv [0, 1, 2, 3, 4] rfl (by rw [nI_inc]; exact j_r (by first | (simp [xPW, xS1, xD1, *]; done) | (exfalso; simp_all; done)) rfl (ih (k + 1) _ _ _ (by omega)))
            · refine j_iconst (v := 0) E dX3_passableWires_68 (by decide) ?_
              refine j_goto (tgt := 73) E dX3_passableWires_69 (by decide) ?_
              refine j_ior E dX3_passableWires_73 ?_
              refine j_istore_n E dX3_passableWires_74 rfl (by decide) ?_
              refine j_iconst (v := 0) E dX3_passableWires_75 (by decide) ?_
              refine j_istore_n E dX3_passableWires_76 rfl (by decide) ?_
              refine j_iconst (v := 0) E dX3_passableWires_77 (by decide) ?_
              refine j_istore_n E dX3_passableWires_78 rfl (by decide) ?_
              refine j_iinc E dX3_passableWires_79 rfl (by decide) ?_
              refine j_goto (tgt := 9) E dX3_passableWires_82 (by decide) ?_
              exact j_lv [0, 1, 2, 3, 4] rfl (by rw [nI_inc]; exact j_r (by first | (simp [xPW, xS1, xD1, *]; done) | (exfalso; simp_all; done)) rfl (ih (k + 1) _ _ _ (by omega)))
        · refine j_aload_n E dX3_passableWires_37 rfl rfl ?_
          refine j_getP (ci := 3) (k := 1) (Cn := RX3) (T := TX3) (N := 2) E dX3_passableWires_38 (by assumption) (by assumption) rfl (by decide) hinX3 (by decide +kernel) rfl (by assumption) ?_
          refine j_iload E dX3_passableWires_41 rfl ?_
          refine j_iald E dX3_passableWires_43 (by assumption) (by assumption) rfl hk (by decide) (by assumption) ?_
          refine j_iconst (v := 2) E dX3_passableWires_44 (by decide) ?_
          refine j_icmp_ne (tgt := 52) E dX3_passableWires_45 (by decide) (fun h45 => ?_) (fun h45 => ?_)
          · refine j_iconst (v := 0) E dX3_passableWires_52 (by decide) ?_
            refine j_istore_n E dX3_passableWires_53 rfl (by decide) ?_
            refine j_aload_n E dX3_passableWires_54 rfl rfl ?_
            refine j_iload E dX3_passableWires_55 rfl ?_
            refine j_callV1 (ci := 3) (n := 1) E (k_X3_endsStretch hW0 hk) dX3_passableWires_57 gX3_passableWires_X3_endsStretch rfl (by decide +kernel) ⟨rfl, rfl, by decide, by decide⟩ ⟨Nat.zero_le _, Nat.zero_le _⟩ (by assumption) (by assumption) rfl rfl rfl (Nat.le_of_ble_eq_true rfl) rfl ?_
            refine j_if_eq (tgt := 79) E dX3_passableWires_60 (by decide) (fun h60 => ?_) (fun h60 => ?_)
            · refine j_iinc E dX3_passableWires_79 rfl (by decide) ?_
              refine j_goto (tgt := 9) E dX3_passableWires_82 (by decide) ?_
              exact j_lv [0, 1, 2, 3, 4] rfl (by rw [nI_inc]; exact j_r (by first | (simp [xPW, xS1, xD1, *]; done) | (exfalso; simp_all; done)) rfl (ih (k + 1) _ _ _ (by omega)))
            · refine j_iload_n E dX3_passableWires_63 rfl rfl ?_
              refine j_iload_n E dX3_passableWires_64 rfl rfl ?_
              refine j_if_eq (tgt := 72) E dX3_passableWires_65 (by decide) (fun h65 => ?_) (fun h65 => ?_)
              · refine j_iload_n E dX3_passableWires_72 rfl rfl ?_
                refine j_ior E dX3_passableWires_73 ?_
                refine j_istore_n E dX3_passableWires_74 rfl (by decide) ?_
                refine j_iconst (v := 0) E dX3_passableWires_75 (by decide) ?_
                refine j_istore_n E dX3_passableWires_76 rfl (by decide) ?_
                refine j_iconst (v := 0) E dX3_passableWires_77 (by decide) ?_
                refine j_istore_n E dX3_passableWires_78 rfl (by decide) ?_
                refine j_iinc E dX3_passableWires_79 rfl (by decide) ?_
                refine j_goto (tgt := 9) E dX3_passableWires_82 (by decide) ?_
                exact j_lv [0, 1, 2, 3, 4] rfl (by rw [nI_inc]; exact j_r (by first | (simp [xPW, xS1, xD1, *]; done) | (exfalso; simp_all; done)) rfl (ih (k + 1) _ _ _ (by omega)))
              · refine j_iconst (v := 0) E dX3_passableWires_68 (by decide) ?_
                refine j_goto (tgt := 73) E dX3_passableWires_69 (by decide) ?_
                refine j_ior E dX3_passableWires_73 ?_
                refine j_istore_n E dX3_passableWires_74 rfl (by decide) ?_
                refine j_iconst (v := 0) E dX3_passableWires_75 (by decide) ?_
                refine j_istore_n E dX3_passableWires_76 rfl (by decide) ?_
                refine j_iconst (v := 0) E dX3_passableWires_77 (by decide) ?_
                refine j_istore_n E dX3_passableWires_78 rfl (by decide) ?_
                refine j_iinc E dX3_passableWires_79 rfl (by decide) ?_
                refine j_goto (tgt := 9) E dX3_passableWires_82 (by decide) ?_
                exact j_lv [0, 1, 2, 3, 4] rfl (by rw [nI_inc]; exact j_r (by first | (simp [xPW, xS1, xD1, *]; done) | (exfalso; simp_all; done)) rfl (ih (k + 1) _ _ _ (by omega)))
          · refine j_iconst (v := 1) E dX3_passableWires_48 (by decide) ?_
            refine j_goto (tgt := 53) E dX3_passableWires_49 (by decide) ?_
            refine j_istore_n E dX3_passableWires_53 rfl (by decide) ?_
            refine j_aload_n E dX3_passableWires_54 rfl rfl ?_
            refine j_iload E dX3_passableWires_55 rfl ?_
            refine j_callV1 (ci := 3) (n := 1) E (k_X3_endsStretch hW0 hk) dX3_passableWires_57 gX3_passableWires_X3_endsStretch rfl (by decide +kernel) ⟨rfl, rfl, by decide, by decide⟩ ⟨Nat.zero_le _, Nat.zero_le _⟩ (by assumption) (by assumption) rfl rfl rfl (Nat.le_of_ble_eq_true rfl) rfl ?_
            refine j_if_eq (tgt := 79) E dX3_passableWires_60 (by decide) (fun h60 => ?_) (fun h60 => ?_)
            · refine j_iinc E dX3_passableWires_79 rfl (by decide) ?_
              refine j_goto (tgt := 9) E dX3_passableWires_82 (by decide) ?_
              exact j_lv [0, 1, 2, 3, 4] rfl (by rw [nI_inc]; exact j_r (by first | (simp [xPW, xS1, xD1, *]; done) | (exfalso; simp_all; done)) rfl (ih (k + 1) _ _ _ (by omega)))
            · refine j_iload_n E dX3_passableWires_63 rfl rfl ?_
              refine j_iload_n E dX3_passableWires_64 rfl rfl ?_
              refine j_if_eq (tgt := 72) E dX3_passableWires_65 (by decide) (fun h65 => ?_) (fun h65 => ?_)
              · refine j_iload_n E dX3_passableWires_72 rfl rfl ?_
                refine j_ior E dX3_passableWires_73 ?_
                refine j_istore_n E dX3_passableWires_74 rfl (by decide) ?_
                refine j_iconst (v := 0) E dX3_passableWires_75 (by decide) ?_
                refine j_istore_n E dX3_passableWires_76 rfl (by decide) ?_
                refine j_iconst (v := 0) E dX3_passableWires_77 (by decide) ?_
                refine j_istore_n E dX3_passableWires_78 rfl (by decide) ?_
                refine j_iinc E dX3_passableWires_79 rfl (by decide) ?_
                refine j_goto (tgt := 9) E dX3_passableWires_82 (by decide) ?_
                exact j_lv [0, 1, 2, 3, 4] rfl (by rw [nI_inc]; exact j_r (by first | (simp [xPW, xS1, xD1, *]; done) | (exfalso; simp_all; done)) rfl (ih (k + 1) _ _ _ (by omega)))
              · refine j_iconst (v := 0) E dX3_passableWires_68 (by decide) ?_
                refine j_goto (tgt := 73) E dX3_passableWires_69 (by decide) ?_
                refine j_ior E dX3_passableWires_73 ?_
                refine j_istore_n E dX3_passableWires_74 rfl (by decide) ?_
                refine j_iconst (v := 0) E dX3_passableWires_75 (by decide) ?_
                refine j_istore_n E dX3_passableWires_76 rfl (by decide) ?_
                refine j_iconst (v := 0) E dX3_passableWires_77 (by decide) ?_
                refine j_istore_n E dX3_passableWires_78 rfl (by decide) ?_
                refine j_iinc E dX3_passableWires_79 rfl (by decide) ?_
                refine j_goto (tgt := 9) E dX3_passableWires_82 (by decide) ?_
                exact j_lv [0, 1, 2, 3, 4] rfl (by rw [nI_inc]; exact j_r (by first | (simp [xPW, xS1, xD1, *]; done) | (exfalso; simp_all; done)) rfl (ih (k + 1) _ _ _ (by omega)))
      · refine j_iload_n E dX3_passableWires_26 rfl rfl ?_
        refine j_iconst (v := 1) E dX3_passableWires_27 (by decide) ?_
        refine j_iload E dX3_passableWires_28 rfl ?_
        refine j_ishl E dX3_passableWires_30 ?_
        refine j_ior E dX3_passableWires_31 ?_
        refine j_istore_n E dX3_passableWires_32 rfl (by decide) ?_
        refine j_iload_n E dX3_passableWires_33 rfl rfl ?_
        refine j_if_ne (tgt := 48) E dX3_passableWires_34 (by decide) (fun h34 => ?_) (fun h34 => ?_)
        · refine j_iconst (v := 1) E dX3_passableWires_48 (by decide) ?_
          refine j_goto (tgt := 53) E dX3_passableWires_49 (by decide) ?_
          refine j_istore_n E dX3_passableWires_53 rfl (by decide) ?_
          refine j_aload_n E dX3_passableWires_54 rfl rfl ?_
          refine j_iload E dX3_passableWires_55 rfl ?_
          refine j_callV1 (ci := 3) (n := 1) E (k_X3_endsStretch hW0 hk) dX3_passableWires_57 gX3_passableWires_X3_endsStretch rfl (by decide +kernel) ⟨rfl, rfl, by decide, by decide⟩ ⟨Nat.zero_le _, Nat.zero_le _⟩ (by assumption) (by assumption) rfl rfl rfl (Nat.le_of_ble_eq_true rfl) rfl ?_
          refine j_if_eq (tgt := 79) E dX3_passableWires_60 (by decide) (fun h60 => ?_) (fun h60 => ?_)
          · refine j_iinc E dX3_passableWires_79 rfl (by decide) ?_
            refine j_goto (tgt := 9) E dX3_passableWires_82 (by decide) ?_
            exact j_lv [0, 1, 2, 3, 4] rfl (by rw [nI_inc]; exact j_r (by first | (simp [xPW, xS1, xD1, *]; done) | (exfalso; simp_all; done)) rfl (ih (k + 1) _ _ _ (by omega)))
          · refine j_iload_n E dX3_passableWires_63 rfl rfl ?_
            refine j_iload_n E dX3_passableWires_64 rfl rfl ?_
            refine j_if_eq (tgt := 72) E dX3_passableWires_65 (by decide) (fun h65 => ?_) (fun h65 => ?_)
            · refine j_iload_n E dX3_passableWires_72 rfl rfl ?_
              refine j_ior E dX3_passableWires_73 ?_
              refine j_istore_n E dX3_passableWires_74 rfl (by decide) ?_
              refine j_iconst (v := 0) E dX3_passableWires_75 (by decide) ?_
              refine j_istore_n E dX3_passableWires_76 rfl (by decide) ?_
              refine j_iconst (v := 0) E dX3_passableWires_77 (by decide) ?_
              refine j_istore_n E dX3_passableWires_78 rfl (by decide) ?_
              refine j_iinc E dX3_passableWires_79 rfl (by decide) ?_
              refine j_goto (tgt := 9) E dX3_passableWires_82 (by decide) ?_
              exact j_lv [0, 1, 2, 3, 4] rfl (by rw [nI_inc]; exact j_r (by first | (simp [xPW, xS1, xD1, *]; done) | (exfalso; simp_all; done)) rfl (ih (k + 1) _ _ _ (by omega)))
            · refine j_iconst (v := 0) E dX3_passableWires_68 (by decide) ?_
              refine j_goto (tgt := 73) E dX3_passableWires_69 (by decide) ?_
              refine j_ior E dX3_passableWires_73 ?_
              refine j_istore_n E dX3_passableWires_74 rfl (by decide) ?_
              refine j_iconst (v := 0) E dX3_passableWires_75 (by decide) ?_
              refine j_istore_n E dX3_passableWires_76 rfl (by decide) ?_
              refine j_iconst (v := 0) E dX3_passableWires_77 (by decide) ?_
              refine j_istore_n E dX3_passableWires_78 rfl (by decide) ?_
              refine j_iinc E dX3_passableWires_79 rfl (by decide) ?_
              refine j_goto (tgt := 9) E dX3_passableWires_82 (by decide) ?_
              exact j_lv [0, 1, 2, 3, 4] rfl (by rw [nI_inc]; exact j_r (by first | (simp [xPW, xS1, xD1, *]; done) | (exfalso; simp_all; done)) rfl (ih (k + 1) _ _ _ (by omega)))
        · refine j_aload_n E dX3_passableWires_37 rfl rfl ?_
          refine j_getP (ci := 3) (k := 1) (Cn := RX3) (T := TX3) (N := 2) E dX3_passableWires_38 (by assumption) (by assumption) rfl (by decide) hinX3 (by decide +kernel) rfl (by assumption) ?_
          refine j_iload E dX3_passableWires_41 rfl ?_
          refine j_iald E dX3_passableWires_43 (by assumption) (by assumption) rfl hk (by decide) (by assumption) ?_
          refine j_iconst (v := 2) E dX3_passableWires_44 (by decide) ?_
          refine j_icmp_ne (tgt := 52) E dX3_passableWires_45 (by decide) (fun h45 => ?_) (fun h45 => ?_)
          · refine j_iconst (v := 0) E dX3_passableWires_52 (by decide) ?_
            refine j_istore_n E dX3_passableWires_53 rfl (by decide) ?_
            refine j_aload_n E dX3_passableWires_54 rfl rfl ?_
            refine j_iload E dX3_passableWires_55 rfl ?_
            refine j_callV1 (ci := 3) (n := 1) E (k_X3_endsStretch hW0 hk) dX3_passableWires_57 gX3_passableWires_X3_endsStretch rfl (by decide +kernel) ⟨rfl, rfl, by decide, by decide⟩ ⟨Nat.zero_le _, Nat.zero_le _⟩ (by assumption) (by assumption) rfl rfl rfl (Nat.le_of_ble_eq_true rfl) rfl ?_
            refine j_if_eq (tgt := 79) E dX3_passableWires_60 (by decide) (fun h60 => ?_) (fun h60 => ?_)
            · refine j_iinc E dX3_passableWires_79 rfl (by decide) ?_
              refine j_goto (tgt := 9) E dX3_passableWires_82 (by decide) ?_
              exact j_lv [0, 1, 2, 3, 4] rfl (by rw [nI_inc]; exact j_r (by first | (simp [xPW, xS1, xD1, *]; done) | (exfalso; simp_all; done)) rfl (ih (k + 1) _ _ _ (by omega)))
            · refine j_iload_n E dX3_passableWires_63 rfl rfl ?_
              refine j_iload_n E dX3_passableWires_64 rfl rfl ?_
              refine j_if_eq (tgt := 72) E dX3_passableWires_65 (by decide) (fun h65 => ?_) (fun h65 => ?_)
              · refine j_iload_n E dX3_passableWires_72 rfl rfl ?_
                refine j_ior E dX3_passableWires_73 ?_
                refine j_istore_n E dX3_passableWires_74 rfl (by decide) ?_
                refine j_iconst (v := 0) E dX3_passableWires_75 (by decide) ?_
                refine j_istore_n E dX3_passableWires_76 rfl (by decide) ?_
                refine j_iconst (v := 0) E dX3_passableWires_77 (by decide) ?_
                refine j_istore_n E dX3_passableWires_78 rfl (by decide) ?_
                refine j_iinc E dX3_passableWires_79 rfl (by decide) ?_
                refine j_goto (tgt := 9) E dX3_passableWires_82 (by decide) ?_
                exact j_lv [0, 1, 2, 3, 4] rfl (by rw [nI_inc]; exact j_r (by first | (simp [xPW, xS1, xD1, *]; done) | (exfalso; simp_all; done)) rfl (ih (k + 1) _ _ _ (by omega)))
              · refine j_iconst (v := 0) E dX3_passableWires_68 (by decide) ?_
                refine j_goto (tgt := 73) E dX3_passableWires_69 (by decide) ?_
                refine j_ior E dX3_passableWires_73 ?_
                refine j_istore_n E dX3_passableWires_74 rfl (by decide) ?_
                refine j_iconst (v := 0) E dX3_passableWires_75 (by decide) ?_
                refine j_istore_n E dX3_passableWires_76 rfl (by decide) ?_
                refine j_iconst (v := 0) E dX3_passableWires_77 (by decide) ?_
                refine j_istore_n E dX3_passableWires_78 rfl (by decide) ?_
                refine j_iinc E dX3_passableWires_79 rfl (by decide) ?_
                refine j_goto (tgt := 9) E dX3_passableWires_82 (by decide) ?_
                exact j_lv [0, 1, 2, 3, 4] rfl (by rw [nI_inc]; exact j_r (by first | (simp [xPW, xS1, xD1, *]; done) | (exfalso; simp_all; done)) rfl (ih (k + 1) _ _ _ (by omega)))
          · refine j_iconst (v := 1) E dX3_passableWires_48 (by decide) ?_
            refine j_goto (tgt := 53) E dX3_passableWires_49 (by decide) ?_
            refine j_istore_n E dX3_passableWires_53 rfl (by decide) ?_
            refine j_aload_n E dX3_passableWires_54 rfl rfl ?_
            refine j_iload E dX3_passableWires_55 rfl ?_
            refine j_callV1 (ci := 3) (n := 1) E (k_X3_endsStretch hW0 hk) dX3_passableWires_57 gX3_passableWires_X3_endsStretch rfl (by decide +kernel) ⟨rfl, rfl, by decide, by decide⟩ ⟨Nat.zero_le _, Nat.zero_le _⟩ (by assumption) (by assumption) rfl rfl rfl (Nat.le_of_ble_eq_true rfl) rfl ?_
            refine j_if_eq (tgt := 79) E dX3_passableWires_60 (by decide) (fun h60 => ?_) (fun h60 => ?_)
            · refine j_iinc E dX3_passableWires_79 rfl (by decide) ?_
              refine j_goto (tgt := 9) E dX3_passableWires_82 (by decide) ?_
              exact j_lv [0, 1, 2, 3, 4] rfl (by rw [nI_inc]; exact j_r (by first | (simp [xPW, xS1, xD1, *]; done) | (exfalso; simp_all; done)) rfl (ih (k + 1) _ _ _ (by omega)))
            · refine j_iload_n E dX3_passableWires_63 rfl rfl ?_
              refine j_iload_n E dX3_passableWires_64 rfl rfl ?_
              refine j_if_eq (tgt := 72) E dX3_passableWires_65 (by decide) (fun h65 => ?_) (fun h65 => ?_)
              · refine j_iload_n E dX3_passableWires_72 rfl rfl ?_
                refine j_ior E dX3_passableWires_73 ?_
                refine j_istore_n E dX3_passableWires_74 rfl (by decide) ?_
                refine j_iconst (v := 0) E dX3_passableWires_75 (by decide) ?_
                refine j_istore_n E dX3_passableWires_76 rfl (by decide) ?_
                refine j_iconst (v := 0) E dX3_passableWires_77 (by decide) ?_
                refine j_istore_n E dX3_passableWires_78 rfl (by decide) ?_
                refine j_iinc E dX3_passableWires_79 rfl (by decide) ?_
                refine j_goto (tgt := 9) E dX3_passableWires_82 (by decide) ?_
                exact j_lv [0, 1, 2, 3, 4] rfl (by rw [nI_inc]; exact j_r (by first | (simp [xPW, xS1, xD1, *]; done) | (exfalso; simp_all; done)) rfl (ih (k + 1) _ _ _ (by omega)))
              · refine j_iconst (v := 0) E dX3_passableWires_68 (by decide) ?_
                refine j_goto (tgt := 73) E dX3_passableWires_69 (by decide) ?_
                refine j_ior E dX3_passableWires_73 ?_
                refine j_istore_n E dX3_passableWires_74 rfl (by decide) ?_
                refine j_iconst (v := 0) E dX3_passableWires_75 (by decide) ?_
                refine j_istore_n E dX3_passableWires_76 rfl (by decide) ?_
                refine j_iconst (v := 0) E dX3_passableWires_77 (by decide) ?_
                refine j_istore_n E dX3_passableWires_78 rfl (by decide) ?_
                refine j_iinc E dX3_passableWires_79 rfl (by decide) ?_
                refine j_goto (tgt := 9) E dX3_passableWires_82 (by decide) ?_
                exact j_lv [0, 1, 2, 3, 4] rfl (by rw [nI_inc]; exact j_r (by first | (simp [xPW, xS1, xD1, *]; done) | (exfalso; simp_all; done)) rfl (ih (k + 1) _ _ _ (by omega)))

set_option maxHeartbeats 4000000 in
set_option maxRecDepth 100000 in
theorem k_X3_passableWires {l : Launch} {D : va_G} {cy : Nat → ClassId} {X : va_W} {G : pG} {M : pM} {r pa wa : Nat} {pl : Nat → Nat} (hW : wRing G r pa wa pl) : jK l yX3_passableWires wsX3_passableWires ({ frames := 1, cells := 0, slots := 0, locals := 21 } : Room) D cy X G M [.ref r] (some (.int (xPW M pl wa 17 0 0 0 0))) X M := by
  refine jK_of (own := RX3) (by decide) rfl rfl (Nat.le_of_ble_eq_true rfl) (fun C E hl hD hcy hG => ?_)
  subst hl; subst hD; subst hcy; subst hG

  refine j_iconst (v := 0) E dX3_passableWires_0 (by decide) ?_
  refine j_istore_n E dX3_passableWires_1 rfl (by decide) ?_
  refine j_iconst (v := 0) E dX3_passableWires_2 (by decide) ?_
  refine j_istore_n E dX3_passableWires_3 rfl (by decide) ?_
  refine j_iconst (v := 0) E dX3_passableWires_4 (by decide) ?_
  refine j_istore_n E dX3_passableWires_5 rfl (by decide) ?_
  refine j_iconst (v := 0) E dX3_passableWires_6 (by decide) ?_
  refine j_istore E dX3_passableWires_7 (by decide) ?_
  refine j_lv [0, 1, 2, 3, 4] rfl ?_
  exact kl_X3_passableWires_9 E hW 17 0 0 0 0 (by omega)

set_option maxHeartbeats 4000000 in
set_option maxRecDepth 100000 in
theorem kl_X3_reachedPlaces_38 {C : jC} (E : jE C cX3_reachedPlaces 4 wsX3_reachedPlaces RX3 (some .int) ({ frames := 2, cells := 0, slots := 0, locals := 45 } : Room)) {X : va_W} {M : pM} {r : Nat} {w : Int32}  : ∀ (q : Nat) (v : Int32), q ≤ 16 → jW C 4 38 [(0, .ref r), (1, .int w), (2, .int v), (3, .int (pmN q))] [] X M 0 0 (jZ C X M (some (.int (xR2 w q v))) 0 0) := by

  intro q
  induction q with
  | zero =>
    intro v hq
    refine j_iload_n E dX3_reachedPlaces_38 rfl rfl ?_
    refine j_if_lt (tgt := 64) E dX3_reachedPlaces_39 (by decide) (fun h => ?_) (fun h => absurd (by decide) h)
    refine j_iload_n E dX3_reachedPlaces_64 rfl rfl ?_
    exact j_iret E dX3_reachedPlaces_65 (by first | rfl | (simp [xR2, pmN, *]; done) | (simp_all [xR2, pmN]; done)) rfl (by first | rfl | (simp [xR2, pmN, *]; done) | (simp_all [xR2, pmN]; done))
  | succ q ih =>
    intro v hq
    refine j_iload_n E dX3_reachedPlaces_38 rfl rfl ?_
    refine j_if_lt (tgt := 64) E dX3_reachedPlaces_39 (by decide) (fun h39 => ?_) (fun h39 => ?_)
    · exact absurd h39 (nI_pos (by omega))
    · refine j_iload_n E dX3_reachedPlaces_42 rfl rfl ?_
      refine j_iload_n E dX3_reachedPlaces_43 rfl rfl ?_
      refine j_iconst (v := 1) E dX3_reachedPlaces_44 (by decide) ?_
      refine j_iadd E dX3_reachedPlaces_45 ?_
      refine j_ishr E dX3_reachedPlaces_46 ?_
      refine j_iconst (v := 1) E dX3_reachedPlaces_47 (by decide) ?_
      refine j_iand E dX3_reachedPlaces_48 ?_
      refine j_if_eq (tgt := 64) E dX3_reachedPlaces_49 (by decide) (fun h49 => ?_) (fun h49 => ?_)
      · refine j_iload_n E dX3_reachedPlaces_64 rfl rfl ?_
        exact j_iret E dX3_reachedPlaces_65 (by first | rfl | (simp [xR2, pmN, *]; done) | (simp_all [xR2, pmN]; done)) rfl (by first | rfl | (simp [xR2, pmN, *]; done) | (simp_all [xR2, pmN]; done))
      · refine j_iload_n E dX3_reachedPlaces_52 rfl rfl ?_
        refine j_iconst (v := 1) E dX3_reachedPlaces_53 (by decide) ?_
        refine j_iload_n E dX3_reachedPlaces_54 rfl rfl ?_
        refine j_ishl E dX3_reachedPlaces_55 ?_
        refine j_ior E dX3_reachedPlaces_56 ?_
        refine j_istore_n E dX3_reachedPlaces_57 rfl (by decide) ?_
        refine j_iinc E dX3_reachedPlaces_58 rfl (by decide) ?_
        refine j_goto (tgt := 38) E dX3_reachedPlaces_61 (by decide) ?_
        exact j_lv [0, 1, 2, 3] rfl (by rw [show pmN (q + 1) + Int32.ofInt (-1) = pmN q from pmN_dec q]; exact j_r (by have h9 : ¬ w >>> (nI q + 1 &&& 31) &&& 1 = 0 := h49; simp [xR2, pmN, h9]) rfl (ih _ (by omega)))

set_option maxHeartbeats 4000000 in
set_option maxRecDepth 100000 in
theorem kl_X3_reachedPlaces_9 {C : jC} (E : jE C cX3_reachedPlaces 4 wsX3_reachedPlaces RX3 (some .int) ({ frames := 2, cells := 0, slots := 0, locals := 45 } : Room)) {X : va_W} {M : pM} {r : Nat} {w : Int32}  : ∀ (n p : Nat) (v : Int32), p ≤ 16 → p + n = 17 → jW C 4 9 [(0, .ref r), (1, .int w), (2, .int v), (3, .int (nI p))] [] X M 0 0 (jZ C X M (some (.int (xR2 w 16 (xR1 w n p v)))) 0 0) := by

  intro n
  induction n with
  | zero => intro p v hp hn; omega
  | succ n ih =>
    intro p v hp hn
    refine j_iload_n E dX3_reachedPlaces_9 rfl rfl ?_
    refine j_bipush (v := 16) E dX3_reachedPlaces_10 (by decide) ?_
    refine j_icmp_ge (tgt := 35) E dX3_reachedPlaces_12 (by decide) (fun h12 => ?_) (fun h12 => ?_)
    · refine j_bipush (v := 15) E dX3_reachedPlaces_35 (by decide) ?_
      refine j_istore_n E dX3_reachedPlaces_37 rfl (by decide) ?_
      exact j_lv [0, 1, 2, 3] rfl (j_r (by simp [xR1, *]) rfl (kl_X3_reachedPlaces_38 E 16 _ (by omega)))
    · refine j_iload_n E dX3_reachedPlaces_15 rfl rfl ?_
      refine j_iload_n E dX3_reachedPlaces_16 rfl rfl ?_
      refine j_ishr E dX3_reachedPlaces_17 ?_
      refine j_iconst (v := 1) E dX3_reachedPlaces_18 (by decide) ?_
      refine j_iand E dX3_reachedPlaces_19 ?_
      refine j_if_eq (tgt := 35) E dX3_reachedPlaces_20 (by decide) (fun h20 => ?_) (fun h20 => ?_)
      · refine j_bipush (v := 15) E dX3_reachedPlaces_35 (by decide) ?_
        refine j_istore_n E dX3_reachedPlaces_37 rfl (by decide) ?_
        exact j_lv [0, 1, 2, 3] rfl (j_r (by simp [xR1, *]) rfl (kl_X3_reachedPlaces_38 E 16 _ (by omega)))
      · refine j_iload_n E dX3_reachedPlaces_23 rfl rfl ?_
        refine j_iconst (v := 1) E dX3_reachedPlaces_24 (by decide) ?_
        refine j_iload_n E dX3_reachedPlaces_25 rfl rfl ?_
        refine j_ishl E dX3_reachedPlaces_26 ?_
        refine j_ior E dX3_reachedPlaces_27 ?_
        refine j_istore_n E dX3_reachedPlaces_28 rfl (by decide) ?_
        refine j_iinc E dX3_reachedPlaces_29 rfl (by decide) ?_
        refine j_goto (tgt := 9) E dX3_reachedPlaces_32 (by decide) ?_
        have hp16 : p < 16 := by
          rcases Nat.lt_or_ge p 16 with q | q
          · exact q
          · exact absurd (nI_le q (by omega)) h12
        exact j_lv [0, 1, 2, 3] rfl (by rw [nI_inc]; exact j_r (by simp [xR1, *]) rfl (ih (p + 1) _ (by omega) (by omega)))

set_option maxHeartbeats 4000000 in
set_option maxRecDepth 100000 in
theorem k_X3_reachedPlaces {l : Launch} {D : va_G} {cy : Nat → ClassId} {X : va_W} {G : pG} {M : pM} {r pa wa : Nat} {pl : Nat → Nat} (hW : wRing G r pa wa pl) : jK l yX3_reachedPlaces wsX3_reachedPlaces ({ frames := 2, cells := 0, slots := 0, locals := 45 } : Room) D cy X G M [.ref r] (some (.int (xReach M pl wa))) X M := by
  refine jK_of (own := RX3) (by decide) rfl rfl (Nat.le_of_ble_eq_true rfl) (fun C E hl hD hcy hG => ?_)
  subst hl; subst hD; subst hcy; subst hG

  have hW0 := hW
  obtain ⟨⟨hr1, hr2, hr3, hr4⟩, ⟨hp1, hp2, hp3⟩, ⟨hw1, hw2, hw3⟩, hpl⟩ := hW
  refine j_aload_n E dX3_reachedPlaces_0 rfl rfl ?_
  refine j_callV1 (ci := 3) (n := 0) E (k_X3_passableWires hW0) dX3_reachedPlaces_1 gX3_reachedPlaces_X3_passableWires rfl (by decide +kernel) ⟨rfl, rfl, by decide, by decide⟩ ⟨Nat.zero_le _, Nat.zero_le _⟩ (by assumption) (by assumption) rfl rfl rfl (Nat.le_of_ble_eq_true rfl) rfl ?_
  refine j_istore_n E dX3_reachedPlaces_4 rfl (by decide) ?_
  refine j_iconst (v := 0) E dX3_reachedPlaces_5 (by decide) ?_
  refine j_istore_n E dX3_reachedPlaces_6 rfl (by decide) ?_
  refine j_iconst (v := 0) E dX3_reachedPlaces_7 (by decide) ?_
  refine j_istore_n E dX3_reachedPlaces_8 rfl (by decide) ?_
  refine j_lv [0, 1, 2, 3] rfl ?_
  exact kl_X3_reachedPlaces_9 E 17 0 0 (by omega) (by omega)
