/-! FirePanel: 0 ring, 1 zones, 2 rules, 3 outputsOn, 4 pad, 5 entries, 6 ruleCount, 7 polls, 8 entered, 9 silent. The addresses of a panel's cells: 0 the panel, 1 the ring, 2 its places, 3 + i a place, 19 the wires, 20 the zones, 21 + i a zone, 25 the rules, 26 + i a rule, 32 + i its steps, 38 the outputs, 39 the pad, 40 its text, 41 the log, 42 its words. -/
def wX (G : pG) (a : Nat → Nat) : Prop := (a 0 ∈ G.1 ∧ G.2.1 (a 0) = 6 ∧ G.2.2.2 (a 0) 0 = some (a 1) ∧ G.2.2.2 (a 0) 1 = some (a 20) ∧ G.2.2.2 (a 0) 2 = some (a 25) ∧ G.2.2.2 (a 0) 3 = some (a 38) ∧ G.2.2.2 (a 0) 4 = some (a 39) ∧ G.2.2.2 (a 0) 5 = some (a 41)) ∧
  wRing G (a 1) (a 2) (a 19) (fun i => a (3 + i)) ∧ (a 20 ∈ G.1 ∧ G.2.1 (a 20) = 14 ∧ G.2.2.1 (a 20) = 4 ∧ ∀ i, i < 4 → G.2.2.2 (a 20) i = some (a (21 + i)) ∧ a (21 + i) ∈ G.1 ∧ G.2.1 (a (21 + i)) = 5) ∧
  (a 25 ∈ G.1 ∧ G.2.1 (a 25) = 13 ∧ G.2.2.1 (a 25) = 6 ∧ ∀ i, i < 6 → G.2.2.2 (a 25) i = some (a (26 + i)) ∧ wRule G (a (26 + i)) (a (32 + i))) ∧ (a 38 ∈ G.1 ∧ G.2.1 (a 38) = 11 ∧ G.2.2.1 (a 38) = 6) ∧ wPad G (a 39) (a 40) ∧ wLog G (a 41) (a 42)
theorem xAdd_n (M : pM) {g w b : Nat} (u v c : Int32) (h1 : b ≠ g) (h2 : b ≠ w) : (xAdd M g w u v c).1 b = M.1 b := by
  unfold xAdd
  rw [pI_1n _ _ _ h1, pI_1n _ _ _ h2, pI_1n _ _ _ h2, pI_1n _ _ _ h2, pR_1n _ _ h2]
theorem xAdd_2 (M : pM) (g w : Nat) (u v c : Int32) : (xAdd M g w u v c).2 = M.2 := rfl
def okS (M : pM) (q : Nat) : Prop := (M.1 q 0 = 1 → okSmoke M q) ∧ (M.1 q 0 = 2 → okHeat M q)
def okW (M : pM) (q : Nat) : Prop := vf_n32 (FP.fmul (M.2 q 2) 1061158912)
def xMiss (a : Nat → Nat) (M : pM) (q : Nat) (n : Int32) : pM := if M.1 q 8 + 1 = 2 then xAdd (pI (pI M q 8 (M.1 q 8 + 1)) q 9 1) (a 41) (a 42) 2 n (M.1 (a 0) 7) else pI M q 8 (M.1 q 8 + 1)
def xAns1 (a : Nat → Nat) (M : pM) (q : Nat) (n : Int32) : pM := if M.1 q 9 = 0 then pI M q 8 0 else xAdd (pI (pI M q 8 0) q 9 0) (a 41) (a 42) 3 n (M.1 (a 0) 7)
def xAns (a : Nat → Nat) (M : pM) (q : Nat) (n : Int32) : pM := if M.1 q 10 = 0 then xSense (xAns1 a M q n) q else xAns1 a M q n
def xAsk1 (a : Nat → Nat) (w : Int32) (M : pM) (i : Nat) : pM := if xSens M (a (3 + i)) = 0 then M else if (w >>> (nI i &&& 31)) &&& 1 = 0 then xMiss a M (a (3 + i)) (nI i) else xAns a M (a (3 + i)) (nI i)
def xAskN (a : Nat → Nat) (w : Int32) : Nat → pM → pM
  | 0, M => M
  | i + 1, M => xAsk1 a w (xAskN a w i M) i
def xAsk (a : Nat → Nat) (M : pM) : pM := xAskN a (xReach M (fun i => a (3 + i)) (a 19)) 16 M
def xEnL (M : pM) (pl : Nat → Nat) (z need : Int32) : Nat → Nat → Int32 → Int32
  | 0, _, al => if al < need then 0 else 1
  | n + 1, i, al => if xWat M (pl i) z = 0 then xEnL M pl z need n (i + 1) al else if M.1 (pl i) 7 = 0 then xEnL M pl z need n (i + 1) al else if M.1 (pl i) 0 = 3 then 1 else xEnL M pl z need n (i + 1) (al + 1)
def xHwL (M : pM) (pl : Nat → Nat) (z : Int32) : Nat → Nat → Int32
  | 0, _ => 0
  | n + 1, i => if xWat M (pl i) z = 0 then xHwL M pl z n (i + 1) else if xWarn M (pl i) = 0 then xHwL M pl z n (i + 1) else 1
def xFtL (M : pM) (pl : Nat → Nat) : Nat → Nat → Int32 → Int32
  | 0, _, c => c
  | n + 1, i, c => xFtL M pl n (i + 1) (c + (if M.1 (pl i) 9 = 0 then 0 else 1))
def xFcL (a : Nat → Nat) (M : pM) : Nat → Nat → Int32 → Int32
  | 0, _, f => f
  | n + 1, i, f => xFcL a M n (i + 1) (if xHwL M (fun i => a (3 + i)) (nI i) 16 0 = 0 then (if M.1 (a (21 + i)) 1 = 0 then f else f ||| (1 <<< ((0 + nI i) &&& 31))) else (if M.1 (a (21 + i)) 1 = 0 then f else f ||| (1 <<< ((0 + nI i) &&& 31))) ||| (1 <<< ((4 + nI i) &&& 31)))
def xFacts (a : Nat → Nat) (M : pM) : Int32 := xFcL a M 4 0 (if xFtL M (fun i => a (3 + i)) 16 0 0 ≤ 0 then 0 else 256)
def xWz1 (a : Nat → Nat) (c : Int32 × pM) (i : Nat) : Int32 × pM := if c.2.1 (a (21 + i)) 2 = 0 then (if c.2.1 (a (21 + i)) 1 = 0 then (if xEnL c.2 (fun i => a (3 + i)) (nI i) (c.2.1 (a (21 + i)) 0) 16 0 0 = 0 then c else (c.1 + Int32.ofInt 1, xAdd (pI (pI c.2 (a (21 + i)) 1 1) (a 0) 9 0) (a 41) (a 42) 1 (nI i) (c.2.1 (a 0) 7))) else c) else c
def xWzN (a : Nat → Nat) : Nat → pM → Int32 × pM
  | 0, M => (0, M)
  | i + 1, M => xWz1 a (xWzN a i M) i
def xFo1 (a : Nat → Nat) (f : Int32) (M : pM) (i : Nat) : pM := if xTrue M (a (26 + i)) (a (32 + i)) f = 0 then pI M (a (26 + i)) 4 0 else pI M (a (26 + i)) 4 (M.1 (a (26 + i)) 4 + 1)
def xFo (a : Nat → Nat) (f : Int32) : Nat → Nat → pM → pM
  | 0, _, M => M
  | n + 1, i, M => if M.1 (a 0) 6 ≤ nI i then M else if 6 ≤ nI i then M else xFo a f n (i + 1) (xFo1 a f M i)
def xDvL (a : Nat → Nat) (M : pM) (o : Int32) : Nat → Nat → Int32
  | 0, _ => 0
  | n + 1, i => if M.1 (a 0) 6 ≤ nI i then 0 else if 6 ≤ nI i then 0 else if M.1 (a (26 + i)) 2 = o then (if M.1 (a (26 + i)) 4 ≤ M.1 (a (26 + i)) 3 then xDvL a M o n (i + 1) else 1) else xDvL a M o n (i + 1)
theorem xDvL_01 (a : Nat → Nat) (M : pM) (o : Int32) : ∀ n i, xDvL a M o n i = 0 ∨ xDvL a M o n i = 1
  | 0, _ => Or.inl rfl
  | n + 1, i => by
    unfold xDvL
    split
    · exact Or.inl rfl
    · split
      · exact Or.inl rfl
      · split
        · split
          · exact xDvL_01 a M o n (i + 1)
          · exact Or.inr rfl
        · exact xDvL_01 a M o n (i + 1)
def xDr1 (a : Nat → Nat) (M : pM) (i : Nat) : pM := if xDvL a M (nI i) 7 0 = 0 then pI M (a 38) i 0 else if M.1 (a 38) i = 0 then pI (xAdd M (a 41) (a 42) 4 (nI i) (M.1 (a 0) 7)) (a 38) i 1 else pI M (a 38) i 1
def xDrN (a : Nat → Nat) : Nat → pM → pM
  | 0, M => M
  | i + 1, M => xDr1 a (xDrN a i M) i
def xOffN (a : Nat → Nat) : Nat → pM → pM
  | 0, M => M
  | i + 1, M => pI (xOffN a i M) (a 38) i 0
def xP1 (a : Nat → Nat) (M : pM) : pM := xAsk a (pI M (a 0) 7 (M.1 (a 0) 7 + 1))
def xP2 (a : Nat → Nat) (M : pM) : pM := (xWzN a 4 (xP1 a M)).2
def xP3 (a : Nat → Nat) (M : pM) : pM := xFo a (xFacts a (xP2 a M)) 7 0 (xP2 a M)
def xPoll (a : Nat → Nat) (M : pM) : pM := xDrN a 6 (xP3 a M)
def xKey (c : Int32) : Int32 := if c = 2468 then 2 else if c = 1357 then 1 else 0
theorem lt_of_nge {i n : Nat} (h : ¬ nI n ≤ nI i) (hi : i < 2 ^ 31) : i < n := by
  rcases Nat.lt_or_ge i n with q | q
  · exact q
  · exact absurd (nI_le q hi) h

set_option maxHeartbeats 1600000 in
set_option maxRecDepth 100000 in
theorem k_X6_noteMiss {l : Launch} {D : va_G} {cy : Nat → ClassId} {X : va_W} {G : pG} {M : pM} {a : Nat → Nat} {q : Nat} {n : Int32} (hX : wX G a) (hq1 : q ∈ G.1) (hq2 : G.2.1 q = 2) : jK l yX6_noteMiss wsX6_noteMiss ({ frames := 2, cells := 0, slots := 0, locals := 83 } : Room) D cy X G M [.ref (a 0), .ref q, .int n] none X (xMiss a M q n) := by
  refine jK_of (own := RX6) (by decide) rfl rfl (Nat.le_of_ble_eq_true rfl) (fun C E hl hD hcy hG => ?_)
  subst hl; subst hD; subst hcy; subst hG
  have hinX2 : ∀ w ∈ u_ws RX2 TX2 11, w ∈ wsX6_noteMiss := by decide +kernel
  have hinX6 : ∀ w ∈ u_ws RX6 TX6 10, w ∈ wsX6_noteMiss := by decide +kernel
  have hX0 := hX
  obtain ⟨⟨hx1, hx2, hx3, hx4, hx5, hx6, hx7, hx8⟩, hRing, ⟨hz1, hz2, hz3, hz⟩, ⟨hu1, hu2, hu3, hu⟩, ⟨ho1, ho2, ho3⟩, hPad, hLog⟩ := hX
  have hRing0 := hRing
  obtain ⟨⟨hr1, hr2, hr3, hr4⟩, ⟨hp1, hp2, hp3⟩, ⟨hw1, hw2, hw3⟩, hpl⟩ := hRing
  have hLog0 := hLog
  obtain ⟨hg1, hg2, hg3, hv1, hv2, hv3⟩ := hLog
  have hPad0 := hPad
  obtain ⟨hP1, hP2, hP3, hT1, hT2, hT3⟩ := hPad
  have h0q : a 0 ≠ q := ne_kind hx2 hq2 (by decide)
  have hqg : q ≠ a 41 := ne_kind hq2 hg2 (by decide)
  have hqw : q ≠ a 42 := ne_kind hq2 hv2 (by decide)
  refine j_aload_n E dX6_noteMiss_0 rfl rfl ?_
  refine j_dup E dX6_noteMiss_1 rfl ?_
  refine j_getI (ci := 2) (k := 8) (Cn := RX2) (T := TX2) (N := 11) E dX6_noteMiss_2 hq1 hq2 rfl (by decide) hinX2 (by decide +kernel) rfl ?_
  refine j_iconst (v := 1) E dX6_noteMiss_5 (by decide) ?_
  refine j_iadd E dX6_noteMiss_6 ?_
  refine j_putI (ci := 2) (k := 8) (Cn := RX2) (T := TX2) (N := 11) E dX6_noteMiss_7 hq1 hq2 rfl (by decide) hinX2 (by decide +kernel) rfl tyX2 tyX2_ok nmX2 rfl rfl rfl rfl ?_
  refine j_aload_n E dX6_noteMiss_10 rfl rfl ?_
  refine j_getI (ci := 2) (k := 8) (Cn := RX2) (T := TX2) (N := 11) E dX6_noteMiss_11 hq1 hq2 rfl (by decide) hinX2 (by decide +kernel) rfl ?_
  try simp only [pI_rd, pF_rd, pR_rd, pI_2, pF_1, pR_2, Nat.reduceEqDiff, ↓reduceIte, (fun M k v => pI_1n M k v h0q)]
  refine j_iconst (v := 2) E dX6_noteMiss_14 (by decide) ?_
  refine j_icmp_ne (tgt := 36) E dX6_noteMiss_15 (by decide) (fun h15 => ?_) (fun h15 => ?_)
  · exact j_vret E dX6_noteMiss_36 rfl (by simp [xMiss, h15])
  · refine j_aload_n E dX6_noteMiss_18 rfl rfl ?_
    refine j_iconst (v := 1) E dX6_noteMiss_19 (by decide) ?_
    refine j_putI (ci := 2) (k := 9) (Cn := RX2) (T := TX2) (N := 11) E dX6_noteMiss_20 hq1 hq2 rfl (by decide) hinX2 (by decide +kernel) rfl tyX2 tyX2_ok nmX2 rfl rfl rfl rfl ?_
    refine j_aload_n E dX6_noteMiss_23 rfl rfl ?_
    refine j_getP (ci := 6) (k := 5) (Cn := RX6) (T := TX6) (N := 10) E dX6_noteMiss_24 hx1 hx2 rfl (by decide) hinX6 (by decide +kernel) rfl hx8 ?_
    refine j_iconst (v := 2) E dX6_noteMiss_27 (by decide) ?_
    refine j_iload_n E dX6_noteMiss_28 rfl rfl ?_
    refine j_aload_n E dX6_noteMiss_29 rfl rfl ?_
    refine j_getI (ci := 6) (k := 7) (Cn := RX6) (T := TX6) (N := 10) E dX6_noteMiss_30 hx1 hx2 rfl (by decide) hinX6 (by decide +kernel) rfl ?_
    try simp only [pI_rd, pF_rd, pR_rd, pI_2, pF_1, pR_2, Nat.reduceEqDiff, ↓reduceIte, (fun M k v => pI_1n M k v h0q)]
    refine j_callV0 (ci := 0) (n := 3) E (k_X0_add hLog0) dX6_noteMiss_33 gX6_noteMiss_X0_add rfl (by decide +kernel) ⟨rfl, rfl, by decide, by decide⟩ ⟨Nat.zero_le _, Nat.zero_le _⟩ hg1 hg2 rfl rfl rfl (Nat.le_of_ble_eq_true rfl) rfl ?_
    exact j_vret E dX6_noteMiss_36 rfl (by simp [xMiss, h15])

theorem xAns1_2 (a : Nat → Nat) (M : pM) (q : Nat) (n : Int32) : (xAns1 a M q n).2 = M.2 := by unfold xAns1; split <;> rfl

set_option maxHeartbeats 1600000 in
set_option maxRecDepth 100000 in
theorem k_X6_noteAnswer {l : Launch} {D : va_G} {cy : Nat → ClassId} {X : va_W} {G : pG} {M : pM} {a : Nat → Nat} {q : Nat} {n : Int32} (hX : wX G a) (hq1 : q ∈ G.1) (hq2 : G.2.1 q = 2) (hs : okS M q) : jK l yX6_noteAnswer wsX6_noteAnswer ({ frames := 3, cells := 0, slots := 0, locals := 83 } : Room) D cy X G M [.ref (a 0), .ref q, .int n] none X (xAns a M q n) := by
  refine jK_of (own := RX6) (by decide) rfl rfl (Nat.le_of_ble_eq_true rfl) (fun C E hl hD hcy hG => ?_)
  subst hl; subst hD; subst hcy; subst hG
  have hinX2 : ∀ w ∈ u_ws RX2 TX2 11, w ∈ wsX6_noteAnswer := by decide +kernel
  have hinX6 : ∀ w ∈ u_ws RX6 TX6 10, w ∈ wsX6_noteAnswer := by decide +kernel
  have hX0 := hX
  obtain ⟨⟨hx1, hx2, hx3, hx4, hx5, hx6, hx7, hx8⟩, hRing, ⟨hz1, hz2, hz3, hz⟩, ⟨hu1, hu2, hu3, hu⟩, ⟨ho1, ho2, ho3⟩, hPad, hLog⟩ := hX
  have hRing0 := hRing
  obtain ⟨⟨hr1, hr2, hr3, hr4⟩, ⟨hp1, hp2, hp3⟩, ⟨hw1, hw2, hw3⟩, hpl⟩ := hRing
  have hLog0 := hLog
  obtain ⟨hg1, hg2, hg3, hv1, hv2, hv3⟩ := hLog
  have hPad0 := hPad
  obtain ⟨hP1, hP2, hP3, hT1, hT2, hT3⟩ := hPad
  have h0q : a 0 ≠ q := ne_kind hx2 hq2 (by decide)
  have hqg : q ≠ a 41 := ne_kind hq2 hg2 (by decide)
  have hqw : q ≠ a 42 := ne_kind hq2 hv2 (by decide)
  refine j_aload_n E dX6_noteAnswer_0 rfl rfl ?_
  refine j_iconst (v := 0) E dX6_noteAnswer_1 (by decide) ?_
  refine j_putI (ci := 2) (k := 8) (Cn := RX2) (T := TX2) (N := 11) E dX6_noteAnswer_2 hq1 hq2 rfl (by decide) hinX2 (by decide +kernel) rfl tyX2 tyX2_ok nmX2 rfl rfl rfl rfl ?_
  refine j_aload_n E dX6_noteAnswer_5 rfl rfl ?_
  refine j_getI (ci := 2) (k := 9) (Cn := RX2) (T := TX2) (N := 11) E dX6_noteAnswer_6 hq1 hq2 rfl (by decide) hinX2 (by decide +kernel) rfl ?_
  try simp only [pI_rd, pF_rd, pR_rd, pI_2, pF_1, pR_2, Nat.reduceEqDiff, ↓reduceIte, (fun M k v => pI_1n M k v h0q), (fun M u v c => xAdd_n M u v c hqg hqw)]
  refine j_if_eq (tgt := 30) E dX6_noteAnswer_9 (by decide) (fun h9 => ?_) (fun h9 => ?_)
  · refine j_aload_n E dX6_noteAnswer_30 rfl rfl ?_
    refine j_getI (ci := 2) (k := 10) (Cn := RX2) (T := TX2) (N := 11) E dX6_noteAnswer_31 hq1 hq2 rfl (by decide) hinX2 (by decide +kernel) rfl ?_
    try simp only [pI_rd, pF_rd, pR_rd, pI_2, pF_1, pR_2, Nat.reduceEqDiff, ↓reduceIte, (fun M k v => pI_1n M k v h0q), (fun M u v c => xAdd_n M u v c hqg hqw)]
    refine j_if_ne (tgt := 41) E dX6_noteAnswer_34 (by decide) (fun h34 => ?_) (fun h34 => ?_)
    · exact j_vret E dX6_noteAnswer_41 rfl (by simp [xAns, xAns1, h9, h34])
    · refine j_aload_n E dX6_noteAnswer_37 rfl rfl ?_
      refine j_callV0 (ci := 2) (n := 0) E (k_X2_sense hq1 hq2 (by intro e; exact hs.1 (by simpa [pI_rd, xAdd_n _ _ _ _ hqg hqw] using e)) (by intro e; exact hs.2 (by simpa [pI_rd, xAdd_n _ _ _ _ hqg hqw] using e))) dX6_noteAnswer_38 gX6_noteAnswer_X2_sense rfl (by decide +kernel) ⟨rfl, rfl, by decide, by decide⟩ ⟨Nat.zero_le _, Nat.zero_le _⟩ hq1 hq2 rfl rfl rfl (Nat.le_of_ble_eq_true rfl) rfl ?_
      exact j_vret E dX6_noteAnswer_41 rfl (by simp [xAns, xAns1, h9, h34])
  · refine j_aload_n E dX6_noteAnswer_12 rfl rfl ?_
    refine j_iconst (v := 0) E dX6_noteAnswer_13 (by decide) ?_
    refine j_putI (ci := 2) (k := 9) (Cn := RX2) (T := TX2) (N := 11) E dX6_noteAnswer_14 hq1 hq2 rfl (by decide) hinX2 (by decide +kernel) rfl tyX2 tyX2_ok nmX2 rfl rfl rfl rfl ?_
    refine j_aload_n E dX6_noteAnswer_17 rfl rfl ?_
    refine j_getP (ci := 6) (k := 5) (Cn := RX6) (T := TX6) (N := 10) E dX6_noteAnswer_18 hx1 hx2 rfl (by decide) hinX6 (by decide +kernel) rfl hx8 ?_
    refine j_iconst (v := 3) E dX6_noteAnswer_21 (by decide) ?_
    refine j_iload_n E dX6_noteAnswer_22 rfl rfl ?_
    refine j_aload_n E dX6_noteAnswer_23 rfl rfl ?_
    refine j_getI (ci := 6) (k := 7) (Cn := RX6) (T := TX6) (N := 10) E dX6_noteAnswer_24 hx1 hx2 rfl (by decide) hinX6 (by decide +kernel) rfl ?_
    try simp only [pI_rd, pF_rd, pR_rd, pI_2, pF_1, pR_2, Nat.reduceEqDiff, ↓reduceIte, (fun M k v => pI_1n M k v h0q), (fun M u v c => xAdd_n M u v c hqg hqw)]
    refine j_callV0 (ci := 0) (n := 3) E (k_X0_add hLog0) dX6_noteAnswer_27 gX6_noteAnswer_X0_add rfl (by decide +kernel) ⟨rfl, rfl, by decide, by decide⟩ ⟨Nat.zero_le _, Nat.zero_le _⟩ hg1 hg2 rfl rfl rfl (Nat.le_of_ble_eq_true rfl) rfl ?_
    refine j_aload_n E dX6_noteAnswer_30 rfl rfl ?_
    refine j_getI (ci := 2) (k := 10) (Cn := RX2) (T := TX2) (N := 11) E dX6_noteAnswer_31 hq1 hq2 rfl (by decide) hinX2 (by decide +kernel) rfl ?_
    try simp only [pI_rd, pF_rd, pR_rd, pI_2, pF_1, pR_2, Nat.reduceEqDiff, ↓reduceIte, (fun M k v => pI_1n M k v h0q), (fun M u v c => xAdd_n M u v c hqg hqw)]
    refine j_if_ne (tgt := 41) E dX6_noteAnswer_34 (by decide) (fun h34 => ?_) (fun h34 => ?_)
    · exact j_vret E dX6_noteAnswer_41 rfl (by simp [xAns, xAns1, h9, h34])
    · refine j_aload_n E dX6_noteAnswer_37 rfl rfl ?_
      refine j_callV0 (ci := 2) (n := 0) E (k_X2_sense hq1 hq2 (by intro e; exact hs.1 (by simpa [pI_rd, xAdd_n _ _ _ _ hqg hqw] using e)) (by intro e; exact hs.2 (by simpa [pI_rd, xAdd_n _ _ _ _ hqg hqw] using e))) dX6_noteAnswer_38 gX6_noteAnswer_X2_sense rfl (by decide +kernel) ⟨rfl, rfl, by decide, by decide⟩ ⟨Nat.zero_le _, Nat.zero_le _⟩ hq1 hq2 rfl rfl rfl (Nat.le_of_ble_eq_true rfl) rfl ?_
      exact j_vret E dX6_noteAnswer_41 rfl (by simp [xAns, xAns1, h9, h34])

set_option maxHeartbeats 1600000 in
set_option maxRecDepth 100000 in
theorem kl_X6_askPlaces_10 {C : jC} (E : jE C cX6_askPlaces 4 wsX6_askPlaces RX6 none ({ frames := 4, cells := 0, slots := 0, locals := 105 } : Room)) {X : va_W} {M : pM} {a : Nat → Nat} {w : Int32} (hX : wX (jG C) a) (hok : ∀ i, i < 16 → okS (xAskN a w i M) (a (3 + i))) : ∀ (n i : Nat), i + n = 16 → jW C 4 10 [(0, .ref (a 0)), (1, .int w), (2, .int (nI i))] [] X (xAskN a w i M) 0 0 (jZ C X (xAskN a w 16 M) none 0 0) := by
  have hinX3 : ∀ w ∈ u_ws RX3 TX3 2, w ∈ wsX6_askPlaces := by decide +kernel
  have hinX6 : ∀ w ∈ u_ws RX6 TX6 10, w ∈ wsX6_askPlaces := by decide +kernel
  have hX0 := hX
  obtain ⟨⟨hx1, hx2, hx3, hx4, hx5, hx6, hx7, hx8⟩, hRing, ⟨hz1, hz2, hz3, hz⟩, ⟨hu1, hu2, hu3, hu⟩, ⟨ho1, ho2, ho3⟩, hPad, hLog⟩ := hX
  have hRing0 := hRing
  obtain ⟨⟨hr1, hr2, hr3, hr4⟩, ⟨hp1, hp2, hp3⟩, ⟨hw1, hw2, hw3⟩, hpl⟩ := hRing
  have hLog0 := hLog
  obtain ⟨hg1, hg2, hg3, hv1, hv2, hv3⟩ := hLog
  have hPad0 := hPad
  obtain ⟨hP1, hP2, hP3, hT1, hT2, hT3⟩ := hPad
  intro n
  induction n with
  | zero =>
    intro i hn
    obtain rfl : i = 16 := by omega
    refine j_iload_n E dX6_askPlaces_10 rfl rfl ?_
    refine j_bipush (v := 16) E dX6_askPlaces_11 (by decide) ?_
    refine j_icmp_ge (tgt := 65) E dX6_askPlaces_13 (by decide) (fun h => ?_) (fun h => absurd (by decide) h)
    exact j_vret E dX6_askPlaces_65 rfl rfl
  | succ n ih =>
    intro i hn
    have hi : i < 16 := by omega
    obtain ⟨q1, q2, q3⟩ := hpl i hi
    refine j_iload_n E dX6_askPlaces_10 rfl rfl ?_
    refine j_bipush (v := 16) E dX6_askPlaces_11 (by decide) ?_
    refine j_icmp_ge (tgt := 65) E dX6_askPlaces_13 (by decide) (fun h13 => ?_) (fun h13 => ?_)
    · exact absurd h13 (nI_ge (b := 16) hi (by decide))
    · refine j_aload_n E dX6_askPlaces_16 rfl rfl ?_
      refine j_getP (ci := 6) (k := 0) (Cn := RX6) (T := TX6) (N := 10) E dX6_askPlaces_17 hx1 hx2 rfl (by decide) hinX6 (by decide +kernel) rfl hx3 ?_
      refine j_getP (ci := 3) (k := 0) (Cn := RX3) (T := TX3) (N := 2) E dX6_askPlaces_20 hr1 hr2 rfl (by decide) hinX3 (by decide +kernel) rfl hr3 ?_
      refine j_iload_n E dX6_askPlaces_23 rfl rfl ?_
      refine j_aldP E dX6_askPlaces_24 hp1 hp3 rfl hi (by decide) hp2 q1 ?_
      refine j_astore_n E dX6_askPlaces_25 rfl (by decide) ?_
      refine j_aload_n E dX6_askPlaces_26 rfl rfl ?_
      refine j_callV1 (ci := 2) (n := 0) E (k_X2_isSensor (by assumption) (by assumption)) dX6_askPlaces_27 gX6_askPlaces_X2_isSensor rfl (by decide +kernel) ⟨rfl, rfl, by decide, by decide⟩ ⟨Nat.zero_le _, Nat.zero_le _⟩ q2 q3 rfl rfl rfl (Nat.le_of_ble_eq_true rfl) rfl ?_
      refine j_if_ne (tgt := 36) E dX6_askPlaces_30 (by decide) (fun h30 => ?_) (fun h30 => ?_)
      · refine j_iload_n E dX6_askPlaces_36 rfl rfl ?_
        refine j_iload_n E dX6_askPlaces_37 rfl rfl ?_
        refine j_ishr E dX6_askPlaces_38 ?_
        refine j_iconst (v := 1) E dX6_askPlaces_39 (by decide) ?_
        refine j_iand E dX6_askPlaces_40 ?_
        refine j_if_ne (tgt := 53) E dX6_askPlaces_41 (by decide) (fun h41 => ?_) (fun h41 => ?_)
        · refine j_aload_n E dX6_askPlaces_53 rfl rfl ?_
          refine j_aload_n E dX6_askPlaces_54 rfl rfl ?_
          refine j_iload_n E dX6_askPlaces_55 rfl rfl ?_
          refine j_callV0 (ci := 6) (n := 2) E (k_X6_noteAnswer hX0 q2 q3 (hok i hi)) dX6_askPlaces_56 gX6_askPlaces_X6_noteAnswer rfl (by decide +kernel) ⟨rfl, rfl, by decide, by decide⟩ ⟨Nat.zero_le _, Nat.zero_le _⟩ hx1 hx2 rfl rfl rfl (Nat.le_of_ble_eq_true rfl) rfl ?_
          refine j_iinc E dX6_askPlaces_59 rfl (by decide) ?_
          refine j_goto (tgt := 10) E dX6_askPlaces_62 (by decide) ?_
          exact j_lv [0, 1, 2] rfl (by rw [nI_inc]; exact j_M (M' := xAskN a w (i + 1) M) (by simp [xAskN, xAsk1, h13, h30, h41]) (ih (i + 1) (by omega)))
        · refine j_aload_n E dX6_askPlaces_44 rfl rfl ?_
          refine j_aload_n E dX6_askPlaces_45 rfl rfl ?_
          refine j_iload_n E dX6_askPlaces_46 rfl rfl ?_
          refine j_callV0 (ci := 6) (n := 2) E (k_X6_noteMiss hX0 q2 q3) dX6_askPlaces_47 gX6_askPlaces_X6_noteMiss rfl (by decide +kernel) ⟨rfl, rfl, by decide, by decide⟩ ⟨Nat.zero_le _, Nat.zero_le _⟩ hx1 hx2 rfl rfl rfl (Nat.le_of_ble_eq_true rfl) rfl ?_
          refine j_goto (tgt := 59) E dX6_askPlaces_50 (by decide) ?_
          refine j_iinc E dX6_askPlaces_59 rfl (by decide) ?_
          refine j_goto (tgt := 10) E dX6_askPlaces_62 (by decide) ?_
          exact j_lv [0, 1, 2] rfl (by rw [nI_inc]; exact j_M (M' := xAskN a w (i + 1) M) (by simp [xAskN, xAsk1, h13, h30, h41]) (ih (i + 1) (by omega)))
      · refine j_goto (tgt := 59) E dX6_askPlaces_33 (by decide) ?_
        refine j_iinc E dX6_askPlaces_59 rfl (by decide) ?_
        refine j_goto (tgt := 10) E dX6_askPlaces_62 (by decide) ?_
        exact j_lv [0, 1, 2] rfl (by rw [nI_inc]; exact j_M (M' := xAskN a w (i + 1) M) (by simp [xAskN, xAsk1, h13, h30]) (ih (i + 1) (by omega)))

set_option maxHeartbeats 1600000 in
set_option maxRecDepth 100000 in
theorem k_X6_askPlaces {l : Launch} {D : va_G} {cy : Nat → ClassId} {X : va_W} {G : pG} {M : pM} {a : Nat → Nat} (hX : wX G a) (hok : ∀ i, i < 16 → okS (xAskN a (xReach M (fun i => a (3 + i)) (a 19)) i M) (a (3 + i))) : jK l yX6_askPlaces wsX6_askPlaces ({ frames := 4, cells := 0, slots := 0, locals := 105 } : Room) D cy X G M [.ref (a 0)] none X (xAsk a M) := by
  refine jK_of (own := RX6) (by decide) rfl rfl (Nat.le_of_ble_eq_true rfl) (fun C E hl hD hcy hG => ?_)
  subst hl; subst hD; subst hcy; subst hG
  have hinX6 : ∀ w ∈ u_ws RX6 TX6 10, w ∈ wsX6_askPlaces := by decide +kernel
  have hX0 := hX
  obtain ⟨⟨hx1, hx2, hx3, hx4, hx5, hx6, hx7, hx8⟩, hRing, ⟨hz1, hz2, hz3, hz⟩, ⟨hu1, hu2, hu3, hu⟩, ⟨ho1, ho2, ho3⟩, hPad, hLog⟩ := hX
  have hRing0 := hRing
  obtain ⟨⟨hr1, hr2, hr3, hr4⟩, ⟨hp1, hp2, hp3⟩, ⟨hw1, hw2, hw3⟩, hpl⟩ := hRing
  have hLog0 := hLog
  obtain ⟨hg1, hg2, hg3, hv1, hv2, hv3⟩ := hLog
  have hPad0 := hPad
  obtain ⟨hP1, hP2, hP3, hT1, hT2, hT3⟩ := hPad
  refine j_aload_n E dX6_askPlaces_0 rfl rfl ?_
  refine j_getP (ci := 6) (k := 0) (Cn := RX6) (T := TX6) (N := 10) E dX6_askPlaces_1 hx1 hx2 rfl (by decide) hinX6 (by decide +kernel) rfl hx3 ?_
  refine j_callV1 (ci := 3) (n := 0) E (k_X3_reachedPlaces hRing0) dX6_askPlaces_4 gX6_askPlaces_X3_reachedPlaces rfl (by decide +kernel) ⟨rfl, rfl, by decide, by decide⟩ ⟨Nat.zero_le _, Nat.zero_le _⟩ hr1 hr2 rfl rfl rfl (Nat.le_of_ble_eq_true rfl) rfl ?_
  refine j_istore_n E dX6_askPlaces_7 rfl (by decide) ?_
  refine j_iconst (v := 0) E dX6_askPlaces_8 (by decide) ?_
  refine j_istore_n E dX6_askPlaces_9 rfl (by decide) ?_
  exact j_lv [0, 1, 2] rfl (kl_X6_askPlaces_10 E hX0 hok 16 0 (by omega))

set_option maxHeartbeats 1600000 in
set_option maxRecDepth 100000 in
theorem kl_X6_hasEnoughAlarms_19 {C : jC} (E : jE C cX6_hasEnoughAlarms 8 wsX6_hasEnoughAlarms RX6 (some .boolean) ({ frames := 2, cells := 0, slots := 0, locals := 41 } : Room)) {X : va_W} {M : pM} {a : Nat → Nat} {z d : Int32} (hX : wX (jG C) a) : ∀ (n i : Nat) (al : Int32), i + n = 16 → jW C 8 19 [(0, .ref (a 0)), (1, .int z), (2, .int d), (3, .int al), (4, .ref (a 2)), (5, .int 16), (6, .int (nI i))] [] X M 0 0 (jZ C X M (some (.int (xEnL M (fun i => a (3 + i)) z d n i al))) 0 0) := by
  have hinX2 : ∀ w ∈ u_ws RX2 TX2 11, w ∈ wsX6_hasEnoughAlarms := by decide +kernel
  have hX0 := hX
  obtain ⟨⟨hx1, hx2, hx3, hx4, hx5, hx6, hx7, hx8⟩, hRing, ⟨hz1, hz2, hz3, hz⟩, ⟨hu1, hu2, hu3, hu⟩, ⟨ho1, ho2, ho3⟩, hPad, hLog⟩ := hX
  have hRing0 := hRing
  obtain ⟨⟨hr1, hr2, hr3, hr4⟩, ⟨hp1, hp2, hp3⟩, ⟨hw1, hw2, hw3⟩, hpl⟩ := hRing
  have hLog0 := hLog
  obtain ⟨hg1, hg2, hg3, hv1, hv2, hv3⟩ := hLog
  have hPad0 := hPad
  obtain ⟨hP1, hP2, hP3, hT1, hT2, hT3⟩ := hPad
  intro n
  induction n with
  | zero =>
    intro i al hn
    obtain rfl : i = 16 := by omega
    refine j_iload E dX6_hasEnoughAlarms_19 rfl ?_
    refine j_iload E dX6_hasEnoughAlarms_21 rfl ?_
    refine j_icmp_ge (tgt := 70) E dX6_hasEnoughAlarms_23 (by decide) (fun h => ?_) (fun h => absurd (by decide) h)
    refine j_iload_n E dX6_hasEnoughAlarms_70 rfl rfl ?_
    refine j_iload_n E dX6_hasEnoughAlarms_71 rfl rfl ?_
    refine j_icmp_lt (tgt := 79) E dX6_hasEnoughAlarms_72 (by decide) (fun h72 => ?_) (fun h72 => ?_)
    · refine j_iconst (v := 0) E dX6_hasEnoughAlarms_79 (by decide) ?_
      exact j_zret E dX6_hasEnoughAlarms_80 rfl (by first | rfl | (simp [xEnL, h72]; done)) rfl (by first | rfl | (simp [xEnL, h72]; done))
    · refine j_iconst (v := 1) E dX6_hasEnoughAlarms_75 (by decide) ?_
      refine j_goto (tgt := 80) E dX6_hasEnoughAlarms_76 (by decide) ?_
      exact j_zret E dX6_hasEnoughAlarms_80 rfl (by first | rfl | (simp [xEnL, h72]; done)) rfl (by first | rfl | (simp [xEnL, h72]; done))
  | succ n ih =>
    intro i al hn
    have hi : i < 16 := by omega
    obtain ⟨q1, q2, q3⟩ := hpl i hi
    refine j_iload E dX6_hasEnoughAlarms_19 rfl ?_
    refine j_iload E dX6_hasEnoughAlarms_21 rfl ?_
    refine j_icmp_ge (tgt := 70) E dX6_hasEnoughAlarms_23 (by decide) (fun h23 => ?_) (fun h23 => ?_)
    · exact absurd h23 (nI_ge (b := 16) hi (by decide))
    · refine j_aload E dX6_hasEnoughAlarms_26 rfl ?_
      refine j_iload E dX6_hasEnoughAlarms_28 rfl ?_
      refine j_aldP E dX6_hasEnoughAlarms_30 hp1 hp3 rfl hi (by decide) hp2 q1 ?_
      refine j_astore E dX6_hasEnoughAlarms_31 (by decide) ?_
      refine j_aload E dX6_hasEnoughAlarms_33 rfl ?_
      refine j_iload_n E dX6_hasEnoughAlarms_35 rfl rfl ?_
      refine j_callV1 (ci := 2) (n := 1) E (k_X2_watches q2 q3) dX6_hasEnoughAlarms_36 gX6_hasEnoughAlarms_X2_watches rfl (by decide +kernel) ⟨rfl, rfl, by decide, by decide⟩ ⟨Nat.zero_le _, Nat.zero_le _⟩ q2 q3 rfl rfl rfl (Nat.le_of_ble_eq_true rfl) rfl ?_
      refine j_if_eq (tgt := 64) E dX6_hasEnoughAlarms_39 (by decide) (fun h39 => ?_) (fun h39 => ?_)
      · refine j_iinc E dX6_hasEnoughAlarms_64 rfl (by decide) ?_
        refine j_goto (tgt := 19) E dX6_hasEnoughAlarms_67 (by decide) ?_
        exact j_lv [0, 1, 2, 3, 4, 5, 6] rfl (by rw [nI_inc]; exact j_r (by simp [xEnL, h23, h39]; try rfl) rfl (ih (i + 1) _ (by omega)))
      · refine j_aload E dX6_hasEnoughAlarms_42 rfl ?_
        refine j_getI (ci := 2) (k := 7) (Cn := RX2) (T := TX2) (N := 11) E dX6_hasEnoughAlarms_44 q2 q3 rfl (by decide) hinX2 (by decide +kernel) rfl ?_
        refine j_if_eq (tgt := 64) E dX6_hasEnoughAlarms_47 (by decide) (fun h47 => ?_) (fun h47 => ?_)
        · refine j_iinc E dX6_hasEnoughAlarms_64 rfl (by decide) ?_
          refine j_goto (tgt := 19) E dX6_hasEnoughAlarms_67 (by decide) ?_
          exact j_lv [0, 1, 2, 3, 4, 5, 6] rfl (by rw [nI_inc]; exact j_r (by simp [xEnL, h23, h39, h47]; try rfl) rfl (ih (i + 1) _ (by omega)))
        · refine j_aload E dX6_hasEnoughAlarms_50 rfl ?_
          refine j_getI (ci := 2) (k := 0) (Cn := RX2) (T := TX2) (N := 11) E dX6_hasEnoughAlarms_52 q2 q3 rfl (by decide) hinX2 (by decide +kernel) rfl ?_
          refine j_iconst (v := 3) E dX6_hasEnoughAlarms_55 (by decide) ?_
          refine j_icmp_ne (tgt := 61) E dX6_hasEnoughAlarms_56 (by decide) (fun h56 => ?_) (fun h56 => ?_)
          · refine j_iinc E dX6_hasEnoughAlarms_61 rfl (by decide) ?_
            refine j_iinc E dX6_hasEnoughAlarms_64 rfl (by decide) ?_
            refine j_goto (tgt := 19) E dX6_hasEnoughAlarms_67 (by decide) ?_
            exact j_lv [0, 1, 2, 3, 4, 5, 6] rfl (by rw [nI_inc]; exact j_r (by simp [xEnL, h23, h39, h47, h56]; try rfl) rfl (ih (i + 1) _ (by omega)))
          · refine j_iconst (v := 1) E dX6_hasEnoughAlarms_59 (by decide) ?_
            exact j_zret E dX6_hasEnoughAlarms_60 rfl (by first | rfl | (simp [xEnL, h23, h39, h47, h56]; done)) rfl (by first | rfl | (simp [xEnL, h23, h39, h47, h56]; done))

set_option maxHeartbeats 1600000 in
set_option maxRecDepth 100000 in
theorem k_X6_hasEnoughAlarms {l : Launch} {D : va_G} {cy : Nat → ClassId} {X : va_W} {G : pG} {M : pM} {a : Nat → Nat} {z d : Int32} (hX : wX G a) : jK l yX6_hasEnoughAlarms wsX6_hasEnoughAlarms ({ frames := 2, cells := 0, slots := 0, locals := 41 } : Room) D cy X G M [.ref (a 0), .int z, .int d] (some (.int (xEnL M (fun i => a (3 + i)) z d 16 0 0))) X M := by
  refine jK_of (own := RX6) (by decide) rfl rfl (Nat.le_of_ble_eq_true rfl) (fun C E hl hD hcy hG => ?_)
  subst hl; subst hD; subst hcy; subst hG
  have hinX3 : ∀ w ∈ u_ws RX3 TX3 2, w ∈ wsX6_hasEnoughAlarms := by decide +kernel
  have hinX6 : ∀ w ∈ u_ws RX6 TX6 10, w ∈ wsX6_hasEnoughAlarms := by decide +kernel
  have hX0 := hX
  obtain ⟨⟨hx1, hx2, hx3, hx4, hx5, hx6, hx7, hx8⟩, hRing, ⟨hz1, hz2, hz3, hz⟩, ⟨hu1, hu2, hu3, hu⟩, ⟨ho1, ho2, ho3⟩, hPad, hLog⟩ := hX
  have hRing0 := hRing
  obtain ⟨⟨hr1, hr2, hr3, hr4⟩, ⟨hp1, hp2, hp3⟩, ⟨hw1, hw2, hw3⟩, hpl⟩ := hRing
  have hLog0 := hLog
  obtain ⟨hg1, hg2, hg3, hv1, hv2, hv3⟩ := hLog
  have hPad0 := hPad
  obtain ⟨hP1, hP2, hP3, hT1, hT2, hT3⟩ := hPad
  refine j_iconst (v := 0) E dX6_hasEnoughAlarms_0 (by decide) ?_
  refine j_istore_n E dX6_hasEnoughAlarms_1 rfl (by decide) ?_
  refine j_aload_n E dX6_hasEnoughAlarms_2 rfl rfl ?_
  refine j_getP (ci := 6) (k := 0) (Cn := RX6) (T := TX6) (N := 10) E dX6_hasEnoughAlarms_3 hx1 hx2 rfl (by decide) hinX6 (by decide +kernel) rfl hx3 ?_
  refine j_getP (ci := 3) (k := 0) (Cn := RX3) (T := TX3) (N := 2) E dX6_hasEnoughAlarms_6 hr1 hr2 rfl (by decide) hinX3 (by decide +kernel) rfl hr3 ?_
  refine j_astore E dX6_hasEnoughAlarms_9 (by decide) ?_
  refine j_aload E dX6_hasEnoughAlarms_11 rfl ?_
  refine j_lenP (v := 16) E dX6_hasEnoughAlarms_13 hp1 hp3 hp2 rfl ?_
  refine j_istore E dX6_hasEnoughAlarms_14 (by decide) ?_
  refine j_iconst (v := 0) E dX6_hasEnoughAlarms_16 (by decide) ?_
  refine j_istore E dX6_hasEnoughAlarms_17 (by decide) ?_
  exact j_lv [0, 1, 2, 3, 4, 5, 6] rfl (kl_X6_hasEnoughAlarms_19 E hX0 16 0 0 (by omega))

set_option maxHeartbeats 1600000 in
set_option maxRecDepth 100000 in
theorem kl_X6_hasWarning_14 {C : jC} (E : jE C cX6_hasWarning 6 wsX6_hasWarning RX6 (some .boolean) ({ frames := 2, cells := 0, slots := 0, locals := 41 } : Room)) {X : va_W} {M : pM} {a : Nat → Nat} {z : Int32} (hX : wX (jG C) a) (hok : ∀ i, i < 16 → okW M (a (3 + i))) : ∀ (n i : Nat), i + n = 16 → jW C 6 14 [(0, .ref (a 0)), (1, .int z), (2, .ref (a 2)), (3, .int 16), (4, .int (nI i))] [] X M 0 0 (jZ C X M (some (.int (xHwL M (fun i => a (3 + i)) z n i))) 0 0) := by

  have hX0 := hX
  obtain ⟨⟨hx1, hx2, hx3, hx4, hx5, hx6, hx7, hx8⟩, hRing, ⟨hz1, hz2, hz3, hz⟩, ⟨hu1, hu2, hu3, hu⟩, ⟨ho1, ho2, ho3⟩, hPad, hLog⟩ := hX
  have hRing0 := hRing
  obtain ⟨⟨hr1, hr2, hr3, hr4⟩, ⟨hp1, hp2, hp3⟩, ⟨hw1, hw2, hw3⟩, hpl⟩ := hRing
  have hLog0 := hLog
  obtain ⟨hg1, hg2, hg3, hv1, hv2, hv3⟩ := hLog
  have hPad0 := hPad
  obtain ⟨hP1, hP2, hP3, hT1, hT2, hT3⟩ := hPad
  intro n
  induction n with
  | zero =>
    intro i hn
    obtain rfl : i = 16 := by omega
    refine j_iload E dX6_hasWarning_14 rfl ?_
    refine j_iload_n E dX6_hasWarning_16 rfl rfl ?_
    refine j_icmp_ge (tgt := 51) E dX6_hasWarning_17 (by decide) (fun h => ?_) (fun h => absurd (by decide) h)
    refine j_iconst (v := 0) E dX6_hasWarning_51 (by decide) ?_
    exact j_zret E dX6_hasWarning_52 rfl (by first | rfl | (simp [xHwL, true_and]; done)) rfl (by first | rfl | (simp [xHwL, true_and]; done))
  | succ n ih =>
    intro i hn
    have hi : i < 16 := by omega
    obtain ⟨q1, q2, q3⟩ := hpl i hi
    refine j_iload E dX6_hasWarning_14 rfl ?_
    refine j_iload_n E dX6_hasWarning_16 rfl rfl ?_
    refine j_icmp_ge (tgt := 51) E dX6_hasWarning_17 (by decide) (fun h17 => ?_) (fun h17 => ?_)
    · exact absurd h17 (nI_ge (b := 16) hi (by decide))
    · refine j_aload_n E dX6_hasWarning_20 rfl rfl ?_
      refine j_iload E dX6_hasWarning_21 rfl ?_
      refine j_aldP E dX6_hasWarning_23 hp1 hp3 rfl hi (by decide) hp2 q1 ?_
      refine j_astore E dX6_hasWarning_24 (by decide) ?_
      refine j_aload E dX6_hasWarning_26 rfl ?_
      refine j_iload_n E dX6_hasWarning_28 rfl rfl ?_
      refine j_callV1 (ci := 2) (n := 1) E (k_X2_watches q2 q3) dX6_hasWarning_29 gX6_hasWarning_X2_watches rfl (by decide +kernel) ⟨rfl, rfl, by decide, by decide⟩ ⟨Nat.zero_le _, Nat.zero_le _⟩ q2 q3 rfl rfl rfl (Nat.le_of_ble_eq_true rfl) rfl ?_
      refine j_if_eq (tgt := 45) E dX6_hasWarning_32 (by decide) (fun h32 => ?_) (fun h32 => ?_)
      · refine j_iinc E dX6_hasWarning_45 rfl (by decide) ?_
        refine j_goto (tgt := 14) E dX6_hasWarning_48 (by decide) ?_
        exact j_lv [0, 1, 2, 3, 4] rfl (by rw [nI_inc]; exact j_r (by simp [xHwL, h17, h32]) rfl (ih (i + 1) (by omega)))
      · refine j_aload E dX6_hasWarning_35 rfl ?_
        refine j_callV1 (ci := 2) (n := 0) E (k_X2_warns q2 q3 (hok i hi)) dX6_hasWarning_37 gX6_hasWarning_X2_warns rfl (by decide +kernel) ⟨rfl, rfl, by decide, by decide⟩ ⟨Nat.zero_le _, Nat.zero_le _⟩ q2 q3 rfl rfl rfl (Nat.le_of_ble_eq_true rfl) rfl ?_
        refine j_if_eq (tgt := 45) E dX6_hasWarning_40 (by decide) (fun h40 => ?_) (fun h40 => ?_)
        · refine j_iinc E dX6_hasWarning_45 rfl (by decide) ?_
          refine j_goto (tgt := 14) E dX6_hasWarning_48 (by decide) ?_
          exact j_lv [0, 1, 2, 3, 4] rfl (by rw [nI_inc]; exact j_r (by simp [xHwL, h17, h32, h40]) rfl (ih (i + 1) (by omega)))
        · refine j_iconst (v := 1) E dX6_hasWarning_43 (by decide) ?_
          exact j_zret E dX6_hasWarning_44 rfl (by first | rfl | (simp [xHwL, h17, h32, h40]; done)) rfl (by first | rfl | (simp [xHwL, h17, h32, h40]; done))

set_option maxHeartbeats 1600000 in
set_option maxRecDepth 100000 in
theorem k_X6_hasWarning {l : Launch} {D : va_G} {cy : Nat → ClassId} {X : va_W} {G : pG} {M : pM} {a : Nat → Nat} {z : Int32} (hX : wX G a) (hok : ∀ i, i < 16 → okW M (a (3 + i))) : jK l yX6_hasWarning wsX6_hasWarning ({ frames := 2, cells := 0, slots := 0, locals := 41 } : Room) D cy X G M [.ref (a 0), .int z] (some (.int (xHwL M (fun i => a (3 + i)) z 16 0))) X M := by
  refine jK_of (own := RX6) (by decide) rfl rfl (Nat.le_of_ble_eq_true rfl) (fun C E hl hD hcy hG => ?_)
  subst hl; subst hD; subst hcy; subst hG
  have hinX3 : ∀ w ∈ u_ws RX3 TX3 2, w ∈ wsX6_hasWarning := by decide +kernel
  have hinX6 : ∀ w ∈ u_ws RX6 TX6 10, w ∈ wsX6_hasWarning := by decide +kernel
  have hX0 := hX
  obtain ⟨⟨hx1, hx2, hx3, hx4, hx5, hx6, hx7, hx8⟩, hRing, ⟨hz1, hz2, hz3, hz⟩, ⟨hu1, hu2, hu3, hu⟩, ⟨ho1, ho2, ho3⟩, hPad, hLog⟩ := hX
  have hRing0 := hRing
  obtain ⟨⟨hr1, hr2, hr3, hr4⟩, ⟨hp1, hp2, hp3⟩, ⟨hw1, hw2, hw3⟩, hpl⟩ := hRing
  have hLog0 := hLog
  obtain ⟨hg1, hg2, hg3, hv1, hv2, hv3⟩ := hLog
  have hPad0 := hPad
  obtain ⟨hP1, hP2, hP3, hT1, hT2, hT3⟩ := hPad
  refine j_aload_n E dX6_hasWarning_0 rfl rfl ?_
  refine j_getP (ci := 6) (k := 0) (Cn := RX6) (T := TX6) (N := 10) E dX6_hasWarning_1 hx1 hx2 rfl (by decide) hinX6 (by decide +kernel) rfl hx3 ?_
  refine j_getP (ci := 3) (k := 0) (Cn := RX3) (T := TX3) (N := 2) E dX6_hasWarning_4 hr1 hr2 rfl (by decide) hinX3 (by decide +kernel) rfl hr3 ?_
  refine j_astore_n E dX6_hasWarning_7 rfl (by decide) ?_
  refine j_aload_n E dX6_hasWarning_8 rfl rfl ?_
  refine j_lenP (v := 16) E dX6_hasWarning_9 hp1 hp3 hp2 rfl ?_
  refine j_istore_n E dX6_hasWarning_10 rfl (by decide) ?_
  refine j_iconst (v := 0) E dX6_hasWarning_11 (by decide) ?_
  refine j_istore E dX6_hasWarning_12 (by decide) ?_
  exact j_lv [0, 1, 2, 3, 4] rfl (kl_X6_hasWarning_14 E hX0 hok 16 0 (by omega))

set_option maxHeartbeats 1600000 in
set_option maxRecDepth 100000 in
theorem kl_X6_faults_16 {C : jC} (E : jE C cX6_faults 6 wsX6_faults RX6 (some .int) ({ frames := 0, cells := 0, slots := 0, locals := 0 } : Room)) {X : va_W} {M : pM} {a : Nat → Nat} (hX : wX (jG C) a) : ∀ (n i : Nat) (c : Int32), i + n = 16 → jW C 6 16 [(0, .ref (a 0)), (1, .int c), (2, .ref (a 2)), (3, .int 16), (4, .int (nI i))] [] X M 0 0 (jZ C X M (some (.int (xFtL M (fun i => a (3 + i)) n i c))) 0 0) := by
  have hinX2 : ∀ w ∈ u_ws RX2 TX2 11, w ∈ wsX6_faults := by decide +kernel
  have hX0 := hX
  obtain ⟨⟨hx1, hx2, hx3, hx4, hx5, hx6, hx7, hx8⟩, hRing, ⟨hz1, hz2, hz3, hz⟩, ⟨hu1, hu2, hu3, hu⟩, ⟨ho1, ho2, ho3⟩, hPad, hLog⟩ := hX
  have hRing0 := hRing
  obtain ⟨⟨hr1, hr2, hr3, hr4⟩, ⟨hp1, hp2, hp3⟩, ⟨hw1, hw2, hw3⟩, hpl⟩ := hRing
  have hLog0 := hLog
  obtain ⟨hg1, hg2, hg3, hv1, hv2, hv3⟩ := hLog
  have hPad0 := hPad
  obtain ⟨hP1, hP2, hP3, hT1, hT2, hT3⟩ := hPad
  intro n
  induction n with
  | zero =>
    intro i c hn
    obtain rfl : i = 16 := by omega
    refine j_iload E dX6_faults_16 rfl ?_
    refine j_iload_n E dX6_faults_18 rfl rfl ?_
    refine j_icmp_ge (tgt := 50) E dX6_faults_19 (by decide) (fun h => ?_) (fun h => absurd (by decide) h)
    refine j_iload_n E dX6_faults_50 rfl rfl ?_
    exact j_iret E dX6_faults_51 (by rfl) rfl (by rfl)
  | succ n ih =>
    intro i c hn
    have hi : i < 16 := by omega
    obtain ⟨q1, q2, q3⟩ := hpl i hi
    refine j_iload E dX6_faults_16 rfl ?_
    refine j_iload_n E dX6_faults_18 rfl rfl ?_
    refine j_icmp_ge (tgt := 50) E dX6_faults_19 (by decide) (fun h19 => ?_) (fun h19 => ?_)
    · exact absurd h19 (nI_ge (b := 16) hi (by decide))
    · refine j_aload_n E dX6_faults_22 rfl rfl ?_
      refine j_iload E dX6_faults_23 rfl ?_
      refine j_aldP E dX6_faults_25 hp1 hp3 rfl hi (by decide) hp2 q1 ?_
      refine j_astore E dX6_faults_26 (by decide) ?_
      refine j_iload_n E dX6_faults_28 rfl rfl ?_
      refine j_aload E dX6_faults_29 rfl ?_
      refine j_getI (ci := 2) (k := 9) (Cn := RX2) (T := TX2) (N := 11) E dX6_faults_31 q2 q3 rfl (by decide) hinX2 (by decide +kernel) rfl ?_
      refine j_if_eq (tgt := 41) E dX6_faults_34 (by decide) (fun h34 => ?_) (fun h34 => ?_)
      · refine j_iconst (v := 0) E dX6_faults_41 (by decide) ?_
        refine j_iadd E dX6_faults_42 ?_
        refine j_istore_n E dX6_faults_43 rfl (by decide) ?_
        refine j_iinc E dX6_faults_44 rfl (by decide) ?_
        refine j_goto (tgt := 16) E dX6_faults_47 (by decide) ?_
        exact j_lv [0, 1, 2, 3, 4] rfl (by rw [nI_inc]; exact j_r (by simp [xFtL, h19, h34]) rfl (ih (i + 1) _ (by omega)))
      · refine j_iconst (v := 1) E dX6_faults_37 (by decide) ?_
        refine j_goto (tgt := 42) E dX6_faults_38 (by decide) ?_
        refine j_iadd E dX6_faults_42 ?_
        refine j_istore_n E dX6_faults_43 rfl (by decide) ?_
        refine j_iinc E dX6_faults_44 rfl (by decide) ?_
        refine j_goto (tgt := 16) E dX6_faults_47 (by decide) ?_
        exact j_lv [0, 1, 2, 3, 4] rfl (by rw [nI_inc]; exact j_r (by simp [xFtL, h19, h34]) rfl (ih (i + 1) _ (by omega)))

set_option maxHeartbeats 1600000 in
set_option maxRecDepth 100000 in
theorem k_X6_faults {l : Launch} {D : va_G} {cy : Nat → ClassId} {X : va_W} {G : pG} {M : pM} {a : Nat → Nat} (hX : wX G a) : jK l yX6_faults wsX6_faults ({ frames := 0, cells := 0, slots := 0, locals := 0 } : Room) D cy X G M [.ref (a 0)] (some (.int (xFtL M (fun i => a (3 + i)) 16 0 0))) X M := by
  refine jK_of (own := RX6) (by decide) rfl rfl (Nat.le_of_ble_eq_true rfl) (fun C E hl hD hcy hG => ?_)
  subst hl; subst hD; subst hcy; subst hG
  have hinX3 : ∀ w ∈ u_ws RX3 TX3 2, w ∈ wsX6_faults := by decide +kernel
  have hinX6 : ∀ w ∈ u_ws RX6 TX6 10, w ∈ wsX6_faults := by decide +kernel
  have hX0 := hX
  obtain ⟨⟨hx1, hx2, hx3, hx4, hx5, hx6, hx7, hx8⟩, hRing, ⟨hz1, hz2, hz3, hz⟩, ⟨hu1, hu2, hu3, hu⟩, ⟨ho1, ho2, ho3⟩, hPad, hLog⟩ := hX
  have hRing0 := hRing
  obtain ⟨⟨hr1, hr2, hr3, hr4⟩, ⟨hp1, hp2, hp3⟩, ⟨hw1, hw2, hw3⟩, hpl⟩ := hRing
  have hLog0 := hLog
  obtain ⟨hg1, hg2, hg3, hv1, hv2, hv3⟩ := hLog
  have hPad0 := hPad
  obtain ⟨hP1, hP2, hP3, hT1, hT2, hT3⟩ := hPad
  refine j_iconst (v := 0) E dX6_faults_0 (by decide) ?_
  refine j_istore_n E dX6_faults_1 rfl (by decide) ?_
  refine j_aload_n E dX6_faults_2 rfl rfl ?_
  refine j_getP (ci := 6) (k := 0) (Cn := RX6) (T := TX6) (N := 10) E dX6_faults_3 hx1 hx2 rfl (by decide) hinX6 (by decide +kernel) rfl hx3 ?_
  refine j_getP (ci := 3) (k := 0) (Cn := RX3) (T := TX3) (N := 2) E dX6_faults_6 hr1 hr2 rfl (by decide) hinX3 (by decide +kernel) rfl hr3 ?_
  refine j_astore_n E dX6_faults_9 rfl (by decide) ?_
  refine j_aload_n E dX6_faults_10 rfl rfl ?_
  refine j_lenP (v := 16) E dX6_faults_11 hp1 hp3 hp2 rfl ?_
  refine j_istore_n E dX6_faults_12 rfl (by decide) ?_
  refine j_iconst (v := 0) E dX6_faults_13 (by decide) ?_
  refine j_istore E dX6_faults_14 (by decide) ?_
  exact j_lv [0, 1, 2, 3, 4] rfl (kl_X6_faults_16 E hX0 16 0 0 (by omega))

set_option maxHeartbeats 1600000 in
set_option maxRecDepth 100000 in
theorem kl_X6_facts_17 {C : jC} (E : jE C cX6_facts 3 wsX6_facts RX6 (some .int) ({ frames := 3, cells := 0, slots := 0, locals := 66 } : Room)) {X : va_W} {M : pM} {a : Nat → Nat} (hX : wX (jG C) a) (hok : ∀ i, i < 16 → okW M (a (3 + i))) : ∀ (n i : Nat) (f : Int32), i + n = 4 → jW C 3 17 [(0, .ref (a 0)), (1, .int f), (2, .int (nI i))] [] X M 0 0 (jZ C X M (some (.int (xFcL a M n i f))) 0 0) := by
  have hinX5 : ∀ w ∈ u_ws RX5 TX5 3, w ∈ wsX6_facts := by decide +kernel
  have hinX6 : ∀ w ∈ u_ws RX6 TX6 10, w ∈ wsX6_facts := by decide +kernel
  have hX0 := hX
  obtain ⟨⟨hx1, hx2, hx3, hx4, hx5, hx6, hx7, hx8⟩, hRing, ⟨hz1, hz2, hz3, hz⟩, ⟨hu1, hu2, hu3, hu⟩, ⟨ho1, ho2, ho3⟩, hPad, hLog⟩ := hX
  have hRing0 := hRing
  obtain ⟨⟨hr1, hr2, hr3, hr4⟩, ⟨hp1, hp2, hp3⟩, ⟨hw1, hw2, hw3⟩, hpl⟩ := hRing
  have hLog0 := hLog
  obtain ⟨hg1, hg2, hg3, hv1, hv2, hv3⟩ := hLog
  have hPad0 := hPad
  obtain ⟨hP1, hP2, hP3, hT1, hT2, hT3⟩ := hPad
  intro n
  induction n with
  | zero =>
    intro i f hn
    obtain rfl : i = 4 := by omega
    refine j_iload_n E dX6_facts_17 rfl rfl ?_
    refine j_iconst (v := 4) E dX6_facts_18 (by decide) ?_
    refine j_icmp_ge (tgt := 64) E dX6_facts_19 (by decide) (fun h => ?_) (fun h => absurd (by decide) h)
    refine j_iload_n E dX6_facts_64 rfl rfl ?_
    exact j_iret E dX6_facts_65 (by rfl) rfl (by rfl)
  | succ n ih =>
    intro i f hn
    have hi : i < 4 := by omega
    obtain ⟨q1, q2, q3⟩ := hz i hi
    refine j_iload_n E dX6_facts_17 rfl rfl ?_
    refine j_iconst (v := 4) E dX6_facts_18 (by decide) ?_
    refine j_icmp_ge (tgt := 64) E dX6_facts_19 (by decide) (fun h19 => ?_) (fun h19 => ?_)
    · exact absurd h19 (nI_ge (b := 4) hi (by decide))
    · refine j_aload_n E dX6_facts_22 rfl rfl ?_
      refine j_getP (ci := 6) (k := 1) (Cn := RX6) (T := TX6) (N := 10) E dX6_facts_23 hx1 hx2 rfl (by decide) hinX6 (by decide +kernel) rfl hx4 ?_
      refine j_iload_n E dX6_facts_26 rfl rfl ?_
      refine j_aldZ E dX6_facts_27 hz1 hz3 rfl hi (by decide) hz2 q1 ?_
      refine j_getI (ci := 5) (k := 1) (Cn := RX5) (T := TX5) (N := 3) E dX6_facts_28 q2 q3 rfl (by decide) hinX5 (by decide +kernel) rfl ?_
      refine j_if_eq (tgt := 42) E dX6_facts_31 (by decide) (fun h31 => ?_) (fun h31 => ?_)
      · refine j_aload_n E dX6_facts_42 rfl rfl ?_
        refine j_iload_n E dX6_facts_43 rfl rfl ?_
        refine j_callV1 (ci := 6) (n := 1) E (k_X6_hasWarning hX0 hok) dX6_facts_44 gX6_facts_X6_hasWarning rfl (by decide +kernel) ⟨rfl, rfl, by decide, by decide⟩ ⟨Nat.zero_le _, Nat.zero_le _⟩ hx1 hx2 rfl rfl rfl (Nat.le_of_ble_eq_true rfl) rfl ?_
        refine j_if_eq (tgt := 58) E dX6_facts_47 (by decide) (fun h47 => ?_) (fun h47 => ?_)
        · refine j_iinc E dX6_facts_58 rfl (by decide) ?_
          refine j_goto (tgt := 17) E dX6_facts_61 (by decide) ?_
          exact j_lv [0, 1, 2] rfl (by rw [nI_inc]; exact j_r (by simp [xFcL, h19, h31, h47]) rfl (ih (i + 1) _ (by omega)))
        · refine j_iload_n E dX6_facts_50 rfl rfl ?_
          refine j_iconst (v := 1) E dX6_facts_51 (by decide) ?_
          refine j_iconst (v := 4) E dX6_facts_52 (by decide) ?_
          refine j_iload_n E dX6_facts_53 rfl rfl ?_
          refine j_iadd E dX6_facts_54 ?_
          refine j_ishl E dX6_facts_55 ?_
          refine j_ior E dX6_facts_56 ?_
          refine j_istore_n E dX6_facts_57 rfl (by decide) ?_
          refine j_iinc E dX6_facts_58 rfl (by decide) ?_
          refine j_goto (tgt := 17) E dX6_facts_61 (by decide) ?_
          exact j_lv [0, 1, 2] rfl (by rw [nI_inc]; exact j_r (by simp [xFcL, h19, h31, h47]) rfl (ih (i + 1) _ (by omega)))
      · refine j_iload_n E dX6_facts_34 rfl rfl ?_
        refine j_iconst (v := 1) E dX6_facts_35 (by decide) ?_
        refine j_iconst (v := 0) E dX6_facts_36 (by decide) ?_
        refine j_iload_n E dX6_facts_37 rfl rfl ?_
        refine j_iadd E dX6_facts_38 ?_
        refine j_ishl E dX6_facts_39 ?_
        refine j_ior E dX6_facts_40 ?_
        refine j_istore_n E dX6_facts_41 rfl (by decide) ?_
        refine j_aload_n E dX6_facts_42 rfl rfl ?_
        refine j_iload_n E dX6_facts_43 rfl rfl ?_
        refine j_callV1 (ci := 6) (n := 1) E (k_X6_hasWarning hX0 hok) dX6_facts_44 gX6_facts_X6_hasWarning rfl (by decide +kernel) ⟨rfl, rfl, by decide, by decide⟩ ⟨Nat.zero_le _, Nat.zero_le _⟩ hx1 hx2 rfl rfl rfl (Nat.le_of_ble_eq_true rfl) rfl ?_
        refine j_if_eq (tgt := 58) E dX6_facts_47 (by decide) (fun h47 => ?_) (fun h47 => ?_)
        · refine j_iinc E dX6_facts_58 rfl (by decide) ?_
          refine j_goto (tgt := 17) E dX6_facts_61 (by decide) ?_
          exact j_lv [0, 1, 2] rfl (by rw [nI_inc]; exact j_r (by simp [xFcL, h19, h31, h47]) rfl (ih (i + 1) _ (by omega)))
        · refine j_iload_n E dX6_facts_50 rfl rfl ?_
          refine j_iconst (v := 1) E dX6_facts_51 (by decide) ?_
          refine j_iconst (v := 4) E dX6_facts_52 (by decide) ?_
          refine j_iload_n E dX6_facts_53 rfl rfl ?_
          refine j_iadd E dX6_facts_54 ?_
          refine j_ishl E dX6_facts_55 ?_
          refine j_ior E dX6_facts_56 ?_
          refine j_istore_n E dX6_facts_57 rfl (by decide) ?_
          refine j_iinc E dX6_facts_58 rfl (by decide) ?_
          refine j_goto (tgt := 17) E dX6_facts_61 (by decide) ?_
          exact j_lv [0, 1, 2] rfl (by rw [nI_inc]; exact j_r (by simp [xFcL, h19, h31, h47]) rfl (ih (i + 1) _ (by omega)))

set_option maxHeartbeats 1600000 in
set_option maxRecDepth 100000 in
theorem k_X6_facts {l : Launch} {D : va_G} {cy : Nat → ClassId} {X : va_W} {G : pG} {M : pM} {a : Nat → Nat} (hX : wX G a) (hok : ∀ i, i < 16 → okW M (a (3 + i))) : jK l yX6_facts wsX6_facts ({ frames := 3, cells := 0, slots := 0, locals := 66 } : Room) D cy X G M [.ref (a 0)] (some (.int (xFacts a M))) X M := by
  refine jK_of (own := RX6) (by decide) rfl rfl (Nat.le_of_ble_eq_true rfl) (fun C E hl hD hcy hG => ?_)
  subst hl; subst hD; subst hcy; subst hG

  have hX0 := hX
  obtain ⟨⟨hx1, hx2, hx3, hx4, hx5, hx6, hx7, hx8⟩, hRing, ⟨hz1, hz2, hz3, hz⟩, ⟨hu1, hu2, hu3, hu⟩, ⟨ho1, ho2, ho3⟩, hPad, hLog⟩ := hX
  have hRing0 := hRing
  obtain ⟨⟨hr1, hr2, hr3, hr4⟩, ⟨hp1, hp2, hp3⟩, ⟨hw1, hw2, hw3⟩, hpl⟩ := hRing
  have hLog0 := hLog
  obtain ⟨hg1, hg2, hg3, hv1, hv2, hv3⟩ := hLog
  have hPad0 := hPad
  obtain ⟨hP1, hP2, hP3, hT1, hT2, hT3⟩ := hPad
  refine j_aload_n E dX6_facts_0 rfl rfl ?_
  refine j_callV1 (ci := 6) (n := 0) E (k_X6_faults hX0) dX6_facts_1 gX6_facts_X6_faults rfl (by decide +kernel) ⟨rfl, rfl, by decide, by decide⟩ ⟨Nat.zero_le _, Nat.zero_le _⟩ hx1 hx2 rfl rfl rfl (Nat.le_of_ble_eq_true rfl) rfl ?_
  refine j_if_le (tgt := 13) E dX6_facts_4 (by decide) (fun h4 => ?_) (fun h4 => ?_)
  · refine j_iconst (v := 0) E dX6_facts_13 (by decide) ?_
    refine j_istore_n E dX6_facts_14 rfl (by decide) ?_
    refine j_iconst (v := 0) E dX6_facts_15 (by decide) ?_
    refine j_istore_n E dX6_facts_16 rfl (by decide) ?_
    exact j_lv [0, 1, 2] rfl (j_r (by simp [xFacts, h4]) rfl (kl_X6_facts_17 E hX0 hok 4 0 _ (by omega)))
  · refine j_sipush (v := 256) E dX6_facts_7 (by decide) ?_
    refine j_goto (tgt := 14) E dX6_facts_10 (by decide) ?_
    refine j_istore_n E dX6_facts_14 rfl (by decide) ?_
    refine j_iconst (v := 0) E dX6_facts_15 (by decide) ?_
    refine j_istore_n E dX6_facts_16 rfl (by decide) ?_
    exact j_lv [0, 1, 2] rfl (j_r (by simp [xFacts, h4]) rfl (kl_X6_facts_17 E hX0 hok 4 0 _ (by omega)))
