section SIM10
variable {tx : Nat → Int32} {n : Nat}
/-- words of a rule -/
def pWds (o : List Int32) : Prop := ∀ v, v ∈ o → ∃ q : Nat, q ≤ 11 ∧ v = nI q
theorem pWds_c {o : List Int32} {v : Int32} (h : pWds o) (q : Nat) (hq : q ≤ 11) (e : v = nI q) : pWds (v :: o) := by
  intro x hx
  rcases List.mem_cons.mp hx with r | r
  · exact ⟨q, hq, r.trans e⟩
  · exact h x r
theorem lk_see {k : Nat} (hk : k < n) (c : Int32) : pSee tx n k c = decide (aLk tx n k = c) := by
  unfold pSee aLk
  rw [if_pos hk]
  simp [hk]
theorem see_end {k : Nat} (hk : n ≤ k) (c : Int32) : pSee tx n k c = false := by
  unfold pSee
  exact decide_eq_false (fun h => by omega)
/-- a digit -/
theorem dg_in {k : Nat} {b : Int32} {B : Nat} (hb : b = nI B) (hB : B ≤ 10) : (pDg tx n k b = -1 ∧ (aLk tx n k < 48 ∨ ¬ aLk tx n k ≤ nI (47 + B))) ∨ (∃ d : Nat, d < B ∧ k < n ∧ pDg tx n k b = nI d ∧ aLk tx n k = nI (48 + d)) := by
  unfold pDg aLk
  by_cases c : k < n
  · rw [if_pos c, if_pos c]
    generalize tx k = x
    by_cases c1 : x < 48
    · have e1 : x - 48 < 0 ∨ 0 ≤ x - 48 := by
        rcases Int32.lt_or_le (x - 48) 0 with h | h
        · exact Or.inl h
        · exact Or.inr h
      rcases e1 with h | h
      · rw [if_pos h]; exact Or.inl ⟨rfl, Or.inl c1⟩
      · rw [if_neg (Int32.not_lt.mpr h)]
        by_cases c2 : x - 48 < b
        · exfalso
          obtain ⟨j, hj, e⟩ := nI_of (Int32.not_lt.mpr h)
          rw [e, hb] at c2
          have hj2 := (nI_ltI hj (by omega)).mp c2
          have ex : x = nI (48 + j) := by
            have : x = (x - 48) + 48 := (Int32.sub_add_cancel x 48).symm
            rw [this, e, Nat.add_comm]
            exact nI_add j 48
          rw [ex] at c1
          exact absurd c1 (nI_nlt (b := 48) (by omega) (by omega))
        · rw [if_neg c2]; exact Or.inl ⟨rfl, Or.inl c1⟩
    · obtain ⟨j, hj, e⟩ := nI_of (x := x) (fun h => c1 (Int32.lt_trans h (by decide)))
      subst e
      have hj2 : 48 ≤ j := by
        by_cases c2 : 48 ≤ j
        · exact c2
        · exact absurd (nI_lt (a := j) (b := 48) (by omega) (by omega)) c1
      have es : nI j - 48 = nI (j - 48) := pk_sub (a := j) (b := 48) hj2
      rw [es, if_neg (nI_pos (by omega))]
      by_cases c3 : j - 48 < B
      · rw [if_pos (show nI (j - 48) < b by rw [hb]; exact nI_lt c3 (by omega))]
        exact Or.inr ⟨j - 48, c3, c, rfl, by rw [show 48 + (j - 48) = j by omega]⟩
      · rw [if_neg (show ¬ nI (j - 48) < b by rw [hb]; exact nI_nlt (by omega) (by omega))]
        exact Or.inl ⟨rfl, Or.inr (nI_ge (by omega) (by omega))⟩
  · rw [if_neg c, if_neg c]; exact Or.inl ⟨rfl, Or.inl (by decide)⟩
/-- what a term comes to -/
def tOk (tx : Nat → Int32) (n F at_ : Nat) (st o : List Int32) (y : Bool × pS) : Prop :=
  (y.1 = true → ∃ F', n + 1 ≤ F' + y.2.1 ∧ at_ < y.2.1 ∧ y.2.1 ≤ n ∧ y.2.2.length + st.length ≤ y.2.1 ∧ pWds y.2.2 ∧ aCd tx n F true at_ st o = aCd tx n F' false y.2.1 (aTd st y.2.2).1 (aTd st y.2.2).2) ∧
  (y.1 = false → y.2.1 ≤ n ∧ (aCd tx n F true at_ st o).1 = -1 - nI y.2.1)
/-- what a condition comes to -/
def cOk (tx : Nat → Int32) (n F at_ : Nat) (st o : List Int32) (y : Bool × pS) : Prop :=
  (y.1 = true → ∃ F', n + 1 ≤ F' + y.2.1 ∧ at_ < y.2.1 ∧ y.2.1 ≤ n ∧ y.2.2.length + st.length ≤ y.2.1 ∧ pWds y.2.2 ∧ pOp tx n y.2.1 = -1 ∧ aCd tx n F true at_ st o = aCd tx n F' false y.2.1 st y.2.2) ∧
  (y.1 = false → y.2.1 ≤ n ∧ (aCd tx n F true at_ st o).1 = -1 - nI y.2.1)
def sTop (st : List Int32) : Prop := st = [] ∨ ∃ r, st = 40 :: r
theorem aTd_top {st o : List Int32} (h : sTop st) : aTd st o = (st, o) := by
  rcases h with rfl | ⟨r, rfl⟩
  · rfl
  · rw [aTd, if_pos rfl]
theorem pAddW_c {o : List Int32} {v : Int32} (h : o.length < 20) : pAddW o v = v :: o := by
  unfold pAddW
  rw [if_pos h]
/-- leaves: z, w, f, or what else -/
theorem leaf_ok {F at_ : Nat} {st o : List Int32} (hn : n ≤ 20) (hF : n + 1 ≤ F + at_) (ha : at_ ≤ n) (hl : o.length + st.length ≤ at_) (hW : pWds o) {k : Bool × pS}
    (hk : (at_ < n → aLk tx n at_ ≠ 122 → aLk tx n at_ ≠ 119 → aLk tx n at_ ≠ 102 → tOk tx n F at_ st o k)) (hend : n ≤ at_ → k = (false, (at_, o))) : tOk tx n F at_ st o (pLeaf tx n (at_, o) k) := by
  unfold pLeaf
  by_cases c0 : n ≤ at_
  · simp only [see_end c0, Bool.false_eq_true, if_false, hend c0]
    refine ⟨fun h => (by cases h), fun _ => ⟨ha, ?_⟩⟩
    cases F with
    | zero => omega
    | succ F =>
      rw [aCd, if_pos c0]
      show -1 - nI n = -1 - nI at_
      rw [show at_ = n by omega]
  have hk0 : at_ < n := by omega
  obtain ⟨F, rfl⟩ : ∃ G, F = G + 1 := ⟨F - 1, by omega⟩
  have zn : ∀ (f : Nat), (aLk tx n at_ = 122 ∧ f = 0 ∨ aLk tx n at_ = 119 ∧ f = 4) → tOk tx n (F + 1) at_ st o (pZn tx n (nI f) (at_ + 1, o)) := by
    intro f hf
    have h1 : ¬ (aLk tx n at_ = 33 ∨ aLk tx n at_ = 40) := by rcases hf with ⟨e, -⟩ | ⟨e, -⟩ <;> rw [e] <;> decide
    have h2 : ¬ aLk tx n at_ = 102 := by rcases hf with ⟨e, -⟩ | ⟨e, -⟩ <;> rw [e] <;> decide
    have h3 : aLk tx n at_ = 122 ∨ aLk tx n at_ = 119 := by rcases hf with ⟨e, -⟩ | ⟨e, -⟩ <;> simp [e]
    have h4 : (if aLk tx n at_ = 119 then (4 : Int32) else 0) = nI f := by
      rcases hf with ⟨e, e'⟩ | ⟨e, e'⟩
      · rw [e, e']; rfl
      · rw [e, e']; rfl
    have hcd : aCd tx n (F + 1) true at_ st o = if aLk tx n (at_ + 1) < 48 then (-1 - nI (at_ + 1), (st, o)) else if aLk tx n (at_ + 1) ≤ 51 then aCd tx n F false (at_ + 2) (aTd st ((aLk tx n (at_ + 1) - 48 + nI f) :: o)).1 (aTd st ((aLk tx n (at_ + 1) - 48 + nI f) :: o)).2 else (-1 - nI (at_ + 1), (st, o)) := by
      rw [aCd, if_neg c0, if_neg (show ¬ true = false by decide), if_neg h1, if_neg h2, if_pos h3, h4]
    unfold pZn
    rcases dg_in (tx := tx) (n := n) (k := at_ + 1) (b := 4) (B := 4) rfl (by omega) with ⟨e, g⟩ | ⟨d, hd, hk1, e, g⟩
    · simp only [e, if_true]
      refine ⟨fun h => (by cases h), fun _ => ⟨by show at_ + 1 ≤ n; omega, ?_⟩⟩
      rw [hcd]
      rcases g with g | g
      · rw [if_pos g]
      · have g' : ¬ aLk tx n (at_ + 1) ≤ 51 := g
        by_cases c : aLk tx n (at_ + 1) < 48
        · rw [if_pos c]
        · rw [if_neg c, if_neg g']
    · have ne : ¬ nI d = -1 := fun q => nI_pos (n := d) (by omega) (by rw [q]; decide)
      simp only [e, if_neg ne]
      have e48 : nI (48 + d) - 48 = nI d := by
        have := pk_sub (a := 48 + d) (b := 48) (by omega)
        rw [show 48 + d - 48 = d by omega] at this
        exact this
      have ew : nI d + nI f = nI (f + d) := by rw [nI_add, Nat.add_comm]
      have ew2 : nI f + nI d = nI (f + d) := nI_add f d
      have hf4 : f ≤ 4 := by rcases hf with ⟨-, e'⟩ | ⟨-, e'⟩ <;> omega
      refine ⟨fun _ => ⟨F, ?_⟩, fun h => (by cases h)⟩
      rw [pAddW_c (by show o.length < 20; omega)]
      show n + 1 ≤ F + (at_ + 1 + 1) ∧ at_ < at_ + 1 + 1 ∧ at_ + 1 + 1 ≤ n ∧ (o.length + 1) + st.length ≤ at_ + 1 + 1 ∧ pWds ((nI f + nI d) :: o) ∧ aCd tx n (F + 1) true at_ st o = aCd tx n F false (at_ + 1 + 1) (aTd st ((nI f + nI d) :: o)).1 (aTd st ((nI f + nI d) :: o)).2
      refine ⟨by omega, by omega, by omega, by omega, pWds_c hW (f + d) (by omega) ew2, ?_⟩
      rw [hcd, g, if_neg (show ¬ nI (48 + d) < 48 from nI_nlt (b := 48) (by omega) (by omega)), if_pos (show nI (48 + d) ≤ 51 from nI_le (b := 51) (by omega) (by omega)), e48, ew, ew2]
  by_cases c1 : aLk tx n at_ = 122
  · have e1 : pSee tx n at_ 122 = true := by rw [lk_see hk0]; exact decide_eq_true c1
    simp only [e1, if_true]
    exact zn 0 (Or.inl ⟨c1, rfl⟩)
  have e1 : pSee tx n at_ 122 = false := by rw [lk_see hk0]; exact decide_eq_false c1
  by_cases c2 : aLk tx n at_ = 119
  · have e2 : pSee tx n at_ 119 = true := by rw [lk_see hk0]; exact decide_eq_true c2
    simp only [e1, e2, Bool.false_eq_true, if_false, if_true]
    exact zn 4 (Or.inr ⟨c2, rfl⟩)
  have e2 : pSee tx n at_ 119 = false := by rw [lk_see hk0]; exact decide_eq_false c2
  by_cases c3 : aLk tx n at_ = 102
  · have e3 : pSee tx n at_ 102 = true := by rw [lk_see hk0]; exact decide_eq_true c3
    simp only [e1, e2, e3, Bool.false_eq_true, if_false, if_true]
    refine ⟨fun _ => ⟨F, ?_⟩, fun h => (by cases h)⟩
    rw [pAddW_c (by show o.length < 20; omega)]
    show n + 1 ≤ F + (at_ + 1) ∧ at_ < at_ + 1 ∧ at_ + 1 ≤ n ∧ (o.length + 1) + st.length ≤ at_ + 1 ∧ pWds (8 :: o) ∧ aCd tx n (F + 1) true at_ st o = aCd tx n F false (at_ + 1) (aTd st (8 :: o)).1 (aTd st (8 :: o)).2
    refine ⟨by omega, by omega, by omega, by omega, pWds_c hW 8 (by omega) rfl, ?_⟩
    rw [aCd, if_neg c0, if_neg (show ¬ true = false by decide), if_neg (show ¬ (aLk tx n at_ = 33 ∨ aLk tx n at_ = 40) by rw [c3]; decide), if_pos c3]
  · have e3 : pSee tx n at_ 102 = false := by rw [lk_see hk0]; exact decide_eq_false c3
    simp only [e1, e2, e3, Bool.false_eq_true, if_false]
    exact hk hk0 c1 c2 c3
/-- the row of operators of a condition -/
theorem cl_ok {st : List Int32} (hn : n ≤ 20) (hst : sTop st) {tm : pS → Bool × pS} {op : Int32}
    (ht : ∀ (c : Int32), (c = 38 ∨ c = 124) → ∀ F at_ o, n + 1 ≤ F + at_ → at_ ≤ n → o.length + (c :: st).length ≤ at_ → pWds o → tOk tx n F at_ (c :: st) o (tm (at_, o))) {F0 at0 : Nat} {o0 : List Int32} : ∀ (k F at_ : Nat) (o : List Int32), 20 ≤ k + at_ → n + 1 ≤ F + at_ → at_ ≤ n → at0 < at_ → o.length + st.length ≤ at_ → pWds o → aCd tx n F0 true at0 st o0 = aCd tx n F false at_ st o → cOk tx n F0 at0 st o0 (pCl tx n tm k (at_, o))
  | 0, F, at_, o, hk, hF, ha, h0, hl, hW, he => by
    rw [pCl]
    refine ⟨fun _ => ⟨F, hF, h0, ha, hl, hW, ?_, he⟩, fun h => (by cases h)⟩
    show pOp tx n at_ = -1
    unfold pOp
    simp [see_end (tx := tx) (show n ≤ at_ by omega)]
  | k + 1, F, at_, o, hk, hF, ha, h0, hl, hW, he => by
    rw [pCl]
    by_cases c : pOp tx n at_ = -1
    · simp only [c, if_true]
      exact ⟨fun _ => ⟨F, hF, h0, ha, hl, hW, c, he⟩, fun h => (by cases h)⟩
    · have hlt : at_ < n := pOp_lt c
      simp only [if_neg c]
      obtain ⟨F, rfl⟩ : ∃ G, F = G + 1 := ⟨F - 1, by omega⟩
      -- the operator
      obtain ⟨ch, hch, eop⟩ : ∃ ch : Int32, (ch = 38 ∨ ch = 124) ∧ aLk tx n at_ = ch ∧ pOp tx n at_ = (if ch = 38 then 10 else 11) := by
        unfold pOp at c ⊢
        rw [lk_see hlt, lk_see hlt] at c ⊢
        by_cases c1 : aLk tx n at_ = 38
        · exact ⟨38, Or.inl rfl, c1, by simp [c1]⟩
        · by_cases c2 : aLk tx n at_ = 124
          · refine ⟨124, Or.inr rfl, c2, by simp [c2]⟩
          · simp [c1, c2] at c
      obtain ⟨elk, eop⟩ := eop
      have hstep : aCd tx n (F + 1) false at_ st o = aCd tx n F true (at_ + 1) (ch :: st) o := by
        rw [aCd, if_neg (by omega), if_pos rfl, elk]
        rcases hch with rfl | rfl
        · rw [if_pos rfl]
        · rw [if_neg (by decide), if_pos rfl]
      have t := ht ch hch F (at_ + 1) o (by omega) (by omega) (by simp; omega) hW
      generalize hy : tm (at_ + 1, o) = y at t ⊢
      obtain ⟨t1, t2⟩ := t
      cases hb : y.1
      · rw [if_pos rfl]
        obtain ⟨q1, q2⟩ := t2 hb
        exact ⟨fun h => (by rw [hb] at h; cases h), fun _ => ⟨q1, by rw [he, hstep]; exact q2⟩⟩
      · rw [if_neg (show ¬ true = false by decide)]
        obtain ⟨F', q1, q2, q3, q4, q5, q6⟩ := t1 hb
        rw [List.length_cons] at q4
        have eW : aTd (ch :: st) y.2.2 = (st, (if ch = 38 then 10 else 11) :: y.2.2) := by
          rw [aTd]
          rcases hch with rfl | rfl
          · rw [if_neg (by decide), if_neg (by decide), if_pos rfl, aTd_top hst]
          · rw [if_neg (by decide), if_neg (by decide), if_neg (by decide), aTd_top hst]
        rw [pAddW_c (by omega), eop]
        refine cl_ok hn hst (op := op) ht k F' y.2.1 _ (by omega) q1 q3 (by omega) (by simp; omega) ?_ ?_
        · rcases hch with rfl | rfl
          · exact pWds_c q5 10 (by omega) rfl
          · exact pWds_c q5 11 (by omega) rfl
        · rw [he, hstep, q6, eW]
theorem cn_of {f : Nat} {st : List Int32} (hn : n ≤ 20) (hst : sTop st) (hc : aCnt st + f = 4)
    (ht : ∀ (st : List Int32) (F at_ : Nat) (o : List Int32), aCnt st + f = 4 → n + 1 ≤ F + at_ → at_ ≤ n → o.length + st.length ≤ at_ → pWds o → tOk tx n F at_ st o (pTm tx n f (at_, o))) {F at_ : Nat} {o : List Int32} (hF : n + 1 ≤ F + at_) (ha : at_ ≤ n) (hl : o.length + st.length ≤ at_) (hW : pWds o) : cOk tx n F at_ st o (pCn tx n (pTm tx n f) (at_, o)) := by
  unfold pCn
  have t := ht st F at_ o hc hF ha hl hW
  generalize pTm tx n f (at_, o) = y at t ⊢
  obtain ⟨t1, t2⟩ := t
  cases hb : y.1
  · rw [if_pos rfl]
    exact ⟨fun h => (by rw [hb] at h; cases h), fun _ => t2 hb⟩
  · rw [if_neg (show ¬ true = false by decide)]
    obtain ⟨F', q1, q2, q3, q4, q5, q6⟩ := t1 hb
    rw [aTd_top hst] at q6
    have hc2 : ∀ c : Int32, (c = 38 ∨ c = 124) → aCnt (c :: st) + f = 4 := by
      intro c hcc
      rw [aCnt]
      rcases hcc with rfl | rfl
      · rw [if_neg (by decide), if_neg (by decide)]; exact hc
      · rw [if_neg (by decide), if_neg (by decide)]; exact hc
    exact cl_ok hn hst (op := 0) (fun c hcc F at_ o h1 h2 h3 h4 => ht (c :: st) F at_ o (hc2 c hcc) h1 h2 h3 h4) 20 F' y.2.1 y.2.2 (by omega) q1 q3 q2 q4 q5 q6
theorem tm_ok (hn : n ≤ 20) : ∀ (f : Nat) (st : List Int32) (F at_ : Nat) (o : List Int32), aCnt st + f = 4 → n + 1 ≤ F + at_ → at_ ≤ n → o.length + st.length ≤ at_ → pWds o → tOk tx n F at_ st o (pTm tx n f (at_, o))
  | 0, st, F, at_, o, hc, hF, ha, hl, hW => by
    rw [pTm]
    refine leaf_ok hn hF ha hl hW (fun hk c1 c2 c3 => ?_) (fun _ => rfl)
    refine ⟨fun h => (by cases h), fun _ => ⟨ha, ?_⟩⟩
    obtain ⟨F, rfl⟩ : ∃ G, F = G + 1 := ⟨F - 1, by omega⟩
    rw [aCd, if_neg (by omega), if_neg (show ¬ true = false by decide)]
    by_cases c4 : aLk tx n at_ = 33 ∨ aLk tx n at_ = 40
    · rw [if_pos c4, if_pos (by omega)]
    · rw [if_neg c4, if_neg c3, if_neg (show ¬ (aLk tx n at_ = 122 ∨ aLk tx n at_ = 119) from fun h => h.elim c1 c2)]
  | f + 1, st, F, at_, o, hc, hF, ha, hl, hW => by
    rw [pTm]
    refine leaf_ok hn hF ha hl hW (fun hk c1 c2 c3 => ?_) (fun he => ?_)
    · obtain ⟨F, rfl⟩ : ∃ G, F = G + 1 := ⟨F - 1, by omega⟩
      by_cases c5 : aLk tx n at_ = 40
      · have e5 : pSee tx n at_ 40 = true := by rw [lk_see hk]; exact decide_eq_true c5
        simp only [e5, if_true]
        have hstep : aCd tx n (F + 1) true at_ st o = aCd tx n F true (at_ + 1) (40 :: st) o := by
          rw [aCd, if_neg (by omega), if_neg (show ¬ true = false by decide), if_pos (Or.inr c5), if_neg (by omega), c5]
        have hc2 : aCnt (40 :: st) + f = 4 := by
          rw [aCnt, if_neg (by decide), if_pos rfl]; omega
        have t := cn_of (tx := tx) (n := n) (f := f) (st := 40 :: st) hn (Or.inr ⟨st, rfl⟩) hc2 (fun st F at_ o h1 h2 h3 h4 h5 => tm_ok hn f st F at_ o h1 h2 h3 h4 h5) (F := F) (at_ := at_ + 1) (o := o) (by omega) (by omega) (by simp; omega) hW
        generalize pCn tx n (pTm tx n f) (at_ + 1, o) = y at t ⊢
        obtain ⟨t1, t2⟩ := t
        cases hb : y.1
        · rw [if_pos rfl]
          exact ⟨fun h => (by rw [hb] at h; cases h), fun _ => by rw [hstep]; exact t2 hb⟩
        · rw [if_neg (show ¬ true = false by decide)]
          obtain ⟨F', q1, q2, q3, q4, q5, q6, q7⟩ := t1 hb
          rw [List.length_cons] at q4
          obtain ⟨F', rfl⟩ : ∃ G, F' = G + 1 := ⟨F' - 1, by omega⟩
          by_cases c6 : pSee tx n y.2.1 41 = true
          · rw [if_pos c6]
            have hlt : y.2.1 < n := (of_decide_eq_true c6).1
            have e6 : aLk tx n y.2.1 = 41 := by
              rw [lk_see hlt] at c6
              exact of_decide_eq_true c6
            refine ⟨fun _ => ⟨F', ?_⟩, fun h => (by cases h)⟩
            show n + 1 ≤ F' + (y.2.1 + 1) ∧ at_ < y.2.1 + 1 ∧ y.2.1 + 1 ≤ n ∧ y.2.2.length + st.length ≤ y.2.1 + 1 ∧ pWds y.2.2 ∧ aCd tx n (F + 1) true at_ st o = aCd tx n F' false (y.2.1 + 1) (aTd st y.2.2).1 (aTd st y.2.2).2
            refine ⟨by omega, by omega, by omega, by omega, q5, ?_⟩
            rw [hstep, q7, aCd, if_neg (by omega), if_pos rfl, e6, if_neg (by decide), if_neg (by decide), if_pos rfl, if_neg (by simp)]
            rfl
          · rw [if_neg c6]
            refine ⟨fun h => (by cases h), fun _ => ⟨q3, ?_⟩⟩
            show (aCd tx n (F + 1) true at_ st o).1 = -1 - nI y.2.1
            rw [hstep, q7, aCd]
            by_cases c7 : n ≤ y.2.1
            · rw [if_pos c7, show y.2.1 = n by omega]
            · have hlt : y.2.1 < n := by omega
              rw [if_neg c7, if_pos rfl]
              unfold pOp at q6
              rw [lk_see hlt, lk_see hlt] at q6
              rw [lk_see hlt] at c6
              have d1 : ¬ aLk tx n y.2.1 = 38 := fun e => by simp [e] at q6
              have d2 : ¬ aLk tx n y.2.1 = 124 := fun e => by simp [e] at q6
              have d3 : ¬ aLk tx n y.2.1 = 41 := fun e => by simp [e] at c6
              rw [if_neg d1, if_neg d2, if_neg d3]
              by_cases c8 : aLk tx n y.2.1 = 62
              · rw [if_pos c8, if_neg (by simp)]
              · rw [if_neg c8]
      have e5 : pSee tx n at_ 40 = false := by rw [lk_see hk]; exact decide_eq_false c5
      by_cases c6 : aLk tx n at_ = 33
      · have e6 : pSee tx n at_ 33 = true := by rw [lk_see hk]; exact decide_eq_true c6
        simp only [e5, e6, Bool.false_eq_true, if_false, if_true]
        have hstep : aCd tx n (F + 1) true at_ st o = aCd tx n F true (at_ + 1) (33 :: st) o := by
          rw [aCd, if_neg (by omega), if_neg (show ¬ true = false by decide), if_pos (Or.inl c6), if_neg (by omega), c6]
        have hc2 : aCnt (33 :: st) + f = 4 := by
          rw [aCnt, if_pos rfl]; omega
        have t := tm_ok hn f (33 :: st) F (at_ + 1) o hc2 (by omega) (by omega) (by simp; omega) hW
        generalize pTm tx n f (at_ + 1, o) = y at t ⊢
        obtain ⟨t1, t2⟩ := t
        cases hb : y.1
        · rw [if_pos rfl]
          exact ⟨fun h => (by rw [hb] at h; cases h), fun _ => by rw [hstep]; exact t2 hb⟩
        · rw [if_neg (show ¬ true = false by decide)]
          obtain ⟨F', q1, q2, q3, q4, q5, q6⟩ := t1 hb
          rw [List.length_cons] at q4
          refine ⟨fun _ => ⟨F', ?_⟩, fun h => (by cases h)⟩
          rw [pAddW_c (by omega)]
          show n + 1 ≤ F' + y.2.1 ∧ at_ < y.2.1 ∧ y.2.1 ≤ n ∧ (y.2.2.length + 1) + st.length ≤ y.2.1 ∧ pWds (9 :: y.2.2) ∧ aCd tx n (F + 1) true at_ st o = aCd tx n F' false y.2.1 (aTd st (9 :: y.2.2)).1 (aTd st (9 :: y.2.2)).2
          refine ⟨by omega, by omega, by omega, by omega, pWds_c q5 9 (by omega) rfl, ?_⟩
          rw [hstep, q6]
          have eW : aTd (33 :: st) y.2.2 = aTd st (9 :: y.2.2) := by
            rw [aTd, if_neg (by decide), if_pos rfl]
          rw [eW]
      · have e6 : pSee tx n at_ 33 = false := by rw [lk_see hk]; exact decide_eq_false c6
        simp only [e5, e6, Bool.false_eq_true, if_false]
        refine ⟨fun h => (by cases h), fun _ => ⟨ha, ?_⟩⟩
        rw [aCd, if_neg (by omega), if_neg (show ¬ true = false by decide), if_neg (show ¬ (aLk tx n at_ = 33 ∨ aLk tx n at_ = 40) from fun h => h.elim c6 c5), if_neg c3, if_neg (show ¬ (aLk tx n at_ = 122 ∨ aLk tx n at_ = 119) from fun h => h.elim c1 c2)]
    · simp only [see_end he, Bool.false_eq_true, if_false]
/-- the whole condition -/
theorem cond_ok (hn : n ≤ 20) : cOk tx n (n + 1) 0 [] [] (pCn tx n (pTm tx n 4) (0, [])) :=
  cn_of hn (Or.inl rfl) rfl (fun st F at_ o h1 h2 h3 h4 h5 => tm_ok hn 4 st F at_ o h1 h2 h3 h4 h5) (by omega) (by omega) (by simp) (fun v hv => by cases hv)
end SIM10
