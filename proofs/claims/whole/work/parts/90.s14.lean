section SIM14
/-! what lies elsewhere stays -/
def fr (S : Nat → Prop) (M M' : pM) : Prop := ∀ q, ¬ S q → M'.1 q = M.1 q ∧ M'.2 q = M.2 q
variable {S : Nat → Prop} {M M' N : pM} {a m : Nat → Nat}
theorem fr.rf : fr S M M := fun _ _ => ⟨rfl, rfl⟩
theorem fr.I (h : fr S M M') {q : Nat} (hq : S q) (k : Nat) (v : Int32) : fr S M (pI M' q k v) := fun b hb => ⟨by rw [pI_1n _ _ _ (fun e => hb (by rw [e]; exact hq))]; exact (h b hb).1, (h b hb).2⟩
theorem fr.F (h : fr S M M') {q : Nat} (hq : S q) (k : Nat) (v : UInt32) : fr S M (pF M' q k v) := fun b hb => ⟨(h b hb).1, by rw [pF_2n _ _ _ (fun e => hb (by rw [e]; exact hq))]; exact (h b hb).2⟩
theorem fr.R (h : fr S M M') {q : Nat} (hq : S q) (f : Nat → Int32) : fr S M (pR M' q f) := fun b hb => ⟨by rw [pR_1n _ _ (fun e => hb (by rw [e]; exact hq))]; exact (h b hb).1, (h b hb).2⟩
theorem fr.add (h : fr S M M') {g w : Nat} (hg : S g) (hw : S w) (u v c : Int32) : fr S M (xAdd M' g w u v c) := by
  unfold xAdd
  exact ((((h.R hw _).I hw _ _).I hw _ _).I hw _ _).I hg _ _
theorem fr.count (h : fr S M M') {q : Nat} (hq : S q) : fr S M (xCount M' q) := by
  rw [xCount_e]; exact h.I hq _ _
theorem fr.sense (h : fr S M M') {q : Nat} (hq : S q) : fr S M (xSense M' q) := by
  have h1 : fr S M (xSn1 M' q) := by
    unfold xSn1 xSmoke xHeat xBut
    repeat' split
    · exact ((h.F hq _ _).count hq).F hq _ _
    · exact (h.F hq _ _).count hq
    · exact ((h.F hq _ _).F hq _ _).count hq
    · exact h.F hq _ _
    · exact (h.I hq _ _).F hq _ _
  unfold xSense
  split
  · exact h1
  · exact h1.I hq _ _
def Sa (a : Nat → Nat) : Nat → Prop := fun q => ∃ i, i < 43 ∧ q = a i
theorem Sa.mk {i : Nat} (h : i < 43) : Sa a (a i) := ⟨i, h, rfl⟩
theorem fr.ask1 (h : fr (Sa a) M M') {i : Nat} (hi : i < 16) (w : Int32) : fr (Sa a) M (xAsk1 a w M' i) := by
  unfold xAsk1 xMiss xAns xAns1
  have q := Sa.mk (a := a) (i := 3 + i) (by omega)
  have g := Sa.mk (a := a) (i := 41) (by omega)
  have l := Sa.mk (a := a) (i := 42) (by omega)
  repeat' split
  · exact h
  · exact ((h.I q _ _).I q _ _).add g l _ _ _
  · exact h.I q _ _
  · exact (h.I q _ _).sense q
  · exact (((h.I q _ _).I q _ _).add g l _ _ _).sense q
  · exact h.I q _ _
  · exact ((h.I q _ _).I q _ _).add g l _ _ _
theorem fr.askN (h : fr (Sa a) M M') (w : Int32) : ∀ i, i ≤ 16 → fr (Sa a) M (xAskN a w i M')
  | 0, _ => h
  | i + 1, hi => by
    rw [xAskN]
    exact (fr.askN h w i (by omega)).ask1 (by omega) w
theorem fr.wzN (h : fr (Sa a) M M') : ∀ i, i ≤ 4 → fr (Sa a) M (xWzN a i M').2
  | 0, _ => h
  | i + 1, hi => by
    have ih := fr.wzN h i (by omega)
    rw [xWzN]
    unfold xWz1
    generalize xWzN a i M' = B at ih ⊢
    split
    · split
      · split
        · exact ih
        · exact ((ih.I (Sa.mk (by omega)) _ _).I (Sa.mk (by omega)) _ _).add (Sa.mk (by omega)) (Sa.mk (by omega)) _ _ _
      · exact ih
    · exact ih
theorem fr.fo (f : Int32) : ∀ (k i : Nat) (M' : pM), k + i = 7 → fr (Sa a) M M' → fr (Sa a) M (xFo a f k i M')
  | 0, i, M', _, h => h
  | k + 1, i, M', hk, h => by
    rw [xFo]
    split
    · exact h
    split
    · exact h
    rename_i c
    have hi : i < 6 := by
      by_cases c2 : i < 6
      · exact c2
      · exact absurd (nI_le (a := 6) (b := i) (by omega) (by omega)) c
    refine fr.fo f k (i + 1) _ (by omega) ?_
    unfold xFo1
    split <;> exact h.I (Sa.mk (by omega)) _ _
theorem fr.drN (h : fr (Sa a) M M') : ∀ i, i ≤ 6 → fr (Sa a) M (xDrN a i M')
  | 0, _ => h
  | i + 1, hi => by
    have ih := fr.drN h i (by omega)
    rw [xDrN]
    unfold xDr1
    generalize xDrN a i M' = B at ih ⊢
    have s38 := Sa.mk (a := a) (i := 38) (by omega)
    split
    · exact ih.I s38 _ _
    split
    · exact (ih.add (Sa.mk (by omega)) (Sa.mk (by omega)) _ _ _).I s38 _ _
    · exact ih.I s38 _ _
theorem fr.poll : fr (Sa a) M (xPoll a M) := by
  have h0 : fr (Sa a) M (pI M (a 0) 7 (M.1 (a 0) 7 + 1)) := fr.rf.I (Sa.mk (by omega)) _ _
  unfold xPoll xP3 xP2 xP1 xAsk
  have h1 := h0.askN (xReach (pI M (a 0) 7 (M.1 (a 0) 7 + 1)) (fun i => a (3 + i)) (a 19)) 16 (by omega)
  generalize xAskN a (xReach (pI M (a 0) 7 (M.1 (a 0) 7 + 1)) (fun i => a (3 + i)) (a 19)) 16 (pI M (a 0) 7 (M.1 (a 0) 7 + 1)) = M1 at h1 ⊢
  have h2 := h1.wzN 4 (by omega)
  generalize (xWzN a 4 M1).2 = M2 at h2 ⊢
  have h3 := fr.fo (xFacts a M2) 7 0 M2 (by omega) h2
  generalize xFo a (xFacts a M2) 7 0 M2 = M3 at h3 ⊢
  exact h3.drN 6 (by omega)
theorem fr.offN (h : fr (Sa a) M M') : ∀ i, fr (Sa a) M (xOffN a i M')
  | 0 => h
  | i + 1 => by
    rw [xOffN]
    exact (fr.offN h i).I (Sa.mk (by omega)) _ _
theorem fr.rzN (h : fr (Sa a) M M') : ∀ i, i ≤ 4 → fr (Sa a) M (xRzN a i M').2
  | 0, _ => h
  | i + 1, hi => by
    rw [xRzN]
    unfold xRz1
    exact (fr.rzN h i (by omega)).I (Sa.mk (by omega)) _ _
theorem fr.caN (h : fr (Sa a) M M') : ∀ i, i ≤ 16 → fr (Sa a) M (xCaN a i M')
  | 0, _ => h
  | i + 1, hi => by
    rw [xCaN]
    unfold xCalm
    exact ((fr.caN h i (by omega)).I (Sa.mk (by omega)) _ _).I (Sa.mk (by omega)) _ _
theorem fr.hlN (h : fr (Sa a) M M') : ∀ i, i ≤ 6 → fr (Sa a) M (xHlN a i M')
  | 0, _ => h
  | i + 1, hi => by
    rw [xHlN]
    exact (fr.hlN h i (by omega)).I (Sa.mk (by omega)) _ _
/-- each outcome -/
theorem frx_fit (p k z : Int32) (t : UInt32) : fr (Sa a) M (oM (xFitO a M p k z t) M) := by
  unfold xFitO
  by_cases c1 : xIn p 16 = true
  · obtain ⟨j, hj, -, ej⟩ := xIn_n (B := 16) rfl (by omega) c1
    have q := Sa.mk (a := a) (i := 3 + j) (by omega)
    rw [if_pos c1, show xC p = j from ej]
    repeat' split
    all_goals first
      | exact fr.rf
      | exact ((((((((fr.rf.I q _ _).I q _ _).F q _ _).F q _ _).F q _ _).I q _ _).I q _ _).I q _ _).I q _ _
  · rw [if_neg c1]; exact fr.rf
theorem frx_need (p k : Int32) : fr (Sa a) M (oM (xNeedO a M p k) M) := by
  unfold xNeedO
  by_cases c1 : xIn p 4 = true
  · obtain ⟨j, hj, -, ej⟩ := xIn_n (B := 4) rfl (by omega) c1
    have q := Sa.mk (a := a) (i := 21 + j) (by omega)
    rw [if_pos c1, show xC p = j from ej]
    repeat' split
    all_goals first
      | exact fr.rf
      | exact fr.rf.I q _ _
  · rw [if_neg c1]; exact fr.rf
theorem frx_wire (p k : Int32) : fr (Sa a) M (oM (xWireO a M p k) M) := by
  unfold xWireO
  repeat' split
  all_goals first
    | exact fr.rf
    | exact fr.rf.I (Sa.mk (by omega)) _ _
theorem frx_reading (p : Int32) (v : UInt32) : fr (Sa a) M (oM (xRdO a M p v) M) := by
  unfold xRdO
  by_cases c1 : xIn p 16 = true
  · obtain ⟨j, hj, -, ej⟩ := xIn_n (B := 16) rfl (by omega) c1
    have q := Sa.mk (a := a) (i := 3 + j) (by omega)
    rw [if_pos c1, show xC p = j from ej]
    repeat' split
    all_goals first
      | exact fr.rf
      | exact fr.rf.F q _ _
  · rw [if_neg c1]; exact fr.rf
theorem frx_type (c : Int32) : fr (Sa a) M (xApp M (a 39) (a 40) c).2 := by
  unfold xApp
  repeat' split
  all_goals first
    | exact fr.rf
    | exact (fr.rf.I (Sa.mk (by omega)) _ _).I (Sa.mk (by omega)) _ _
theorem frx_forget : fr (Sa a) M (oM (xForgO a M) M) := by
  unfold xForgO
  split
  · exact (fr.rf.I (Sa.mk (by omega)) _ _).offN 6
  · exact fr.rf
theorem frx_silence : fr (Sa a) M (oM (xSilO a M) M) := by
  unfold xSilO
  repeat' split
  all_goals first
    | exact fr.rf
    | exact (fr.rf.I (Sa.mk (by omega)) _ _).add (Sa.mk (by omega)) (Sa.mk (by omega)) _ _ _
theorem frx_reset : fr (Sa a) M (oM (xResO a M) M) := by
  unfold xResO
  split
  · have h1 := (fr.rf (S := Sa a) (M := M)).rzN 4 (by omega)
    show fr (Sa a) M (xReE a (xHlN a 6 (xCaN a 16 (xRzN a 4 M).2)))
    generalize (xRzN a 4 M).2 = M1 at h1 ⊢
    have h2 := h1.caN 16 (by omega)
    generalize xCaN a 16 M1 = M2 at h2 ⊢
    have h3 := h2.hlN 6 (by omega)
    generalize xHlN a 6 M2 = M3 at h3 ⊢
    unfold xReE
    exact ((h3.offN 6).I (Sa.mk (by omega)) _ _).add (Sa.mk (by omega)) (Sa.mk (by omega)) _ _ _
  · exact fr.rf
theorem frx_off (z p f : Int32) : fr (Sa a) M (oM (xOffO a M z p f) M) := by
  unfold xOffO
  split
  · by_cases c1 : xIn p 16 = true
    · obtain ⟨j, hj, -, ej⟩ := xIn_n (B := 16) rfl (by omega) c1
      have q := Sa.mk (a := a) (i := 3 + j) (by omega)
      rw [if_pos c1]
      unfold xOfP
      rw [show xC p = j from ej]
      repeat' split
      all_goals first
        | exact fr.rf
        | exact (fr.rf.I q _ _).add (Sa.mk (by omega)) (Sa.mk (by omega)) _ _ _
    · rw [if_neg c1]; exact fr.rf
  · by_cases c1 : xIn p 4 = true
    · obtain ⟨j, hj, -, ej⟩ := xIn_n (B := 4) rfl (by omega) c1
      have q := Sa.mk (a := a) (i := 21 + j) (by omega)
      rw [if_pos c1]
      unfold xOfZ
      rw [show xC p = j from ej]
      repeat' split
      all_goals first
        | exact fr.rf
        | exact (fr.rf.I q _ _).add (Sa.mk (by omega)) (Sa.mk (by omega)) _ _ _
    · rw [if_neg c1]; exact fr.rf
theorem oM_ite {b : Bool} {o1 o2 : xOut} : oM (if b = true then o1 else o2) M = if b = true then oM o1 M else oM o2 M := by cases b <;> rfl
theorem frx_ask {o : xOut} (h : oM o M = M) : fr (Sa a) M (oM o M) := by rw [h]; exact fr.rf
theorem oM_lev (p : Int32) (k : Nat) : oM (xLevO a M p k) M = M := by unfold xLevO; split <;> rfl
theorem oM_pl (p : Int32) : oM (xPlO a M p) M = M := by unfold xPlO; split <;> rfl
theorem oM_zo (p : Int32) : oM (xZoO a M p) M = M := by unfold xZoO; split <;> rfl
theorem oM_ou (p : Int32) : oM (xOuO a M p) M = M := by unfold xOuO; (repeat' split) <;> rfl
theorem oM_he (p : Int32) : oM (xHeO a M p) M = M := by unfold xHeO; split <;> rfl
theorem oM_lo (p v : Int32) : oM (xLoO a M p v) M = M := by unfold xLoO; (repeat' split) <;> rfl
theorem oM_co (p : Int32) : oM (xCoO a M p) M = M := by unfold xCoO; (repeat' split) <;> rfl
theorem frx_rule {Z : Nat → UInt32 → Prop} (A : sAd a m) (h : simP Z a m M N) : fr (Sa a) M (oM (xRuO a M) M) := by
  obtain ⟨w, kd, R, n, h⟩ := h
  have hR := h.2.2.1.1
  have eR := h.2.2.1.2.1
  unfold xRuO
  by_cases c0 : xEnt a M 2 = true
  case neg => rw [if_neg c0]; exact fr.rf
  rw [if_pos c0]
  by_cases c1 : M.1 (a 0) 6 < 0
  · rw [if_pos c1]; exact fr.rf
  rw [if_neg c1]
  by_cases c : M.1 (a 0) 6 < 6
  case neg => rw [if_neg c]; exact fr.rf
  rw [if_pos c]
  have hR6 : R < 6 := by
    rw [eR] at c
    exact (nI_ltI (b := 6) (by omega) (by omega)).mp c
  have hX := xRI_n (M := M) (P := a 39) (T := a 40) (r := a (26 + R)) (s := a (32 + R)) (n := n) h.2.2.2.1.1 h.2.2.2.1.2.1 (A.na (by omega) (by omega) (by omega)) (A.na (by omega) (by omega) (by omega)) (A.na (by omega) (by omega) (by omega)) (A.na (by omega) (by omega) (by omega)) (A.na (by omega) (by omega) (by omega)) (A.na (by omega) (by omega) (by omega))
  have exu : xRu a M = xRI M (a 39) (a 40) (a (26 + R)) (a (32 + R)) := by
    unfold xRu
    rw [eR, show xC (nI R) = R from nI_clamp (by omega)]
  have f : fr (Sa a) M (xRu a M).2 := by
    rw [exu]
    intro q hq
    refine ⟨hX.2.1.2.1 q (fun e => hq ⟨39, by omega, e⟩) (fun e => hq ⟨26 + R, by omega, e⟩) (fun e => hq ⟨32 + R, by omega, e⟩), ?_⟩
    rw [hX.2.1.1]
  have f2 : fr (Sa a) M (xRuM a M) := by
    unfold xRuM
    exact f.I (Sa.mk (by omega)) _ _
  split
  · exact f2.I (Sa.mk (by omega)) _ _
  · exact f2
/-! the reference's -/
def Sm (m : Nat → Nat) : Nat → Prop := fun q => ∃ i, i < 34 ∧ q = m i
theorem Sm.mk {i : Nat} (h : i < 34) : Sm m (m i) := ⟨i, h, rfl⟩
theorem fr.nt (m : Nat → Nat) : ∀ (j : Nat) (N' : pM), fr (Sm m) N N' → fr (Sm m) N (mNt m j N')
  | 0, N', h => h
  | j + 1, N', h => by
    rw [mNt]
    exact fr.nt m j _ (h.I (Sm.mk (by omega)) _ _)
theorem fr.note (h : fr (Sm m) N M') (u v : Int32) : fr (Sm m) N (mNote M' m u v) := by
  unfold mNote
  exact ((((fr.nt m 45 _ h).I (Sm.mk (by omega)) _ _).I (Sm.mk (by omega)) _ _).I (Sm.mk (by omega)) _ _).I (Sm.mk (by omega)) _ _
theorem fr.msense (h : fr (Sm m) N M') (p : Nat) : fr (Sm m) N (mSense M' m p) := by
  have q : ∀ {i}, i < 34 → Sm m (m i) := fun h => Sm.mk h
  unfold mSense mAl
  refine fr.I ?_ (q (by omega)) _ _
  unfold mSen1 mBut mS3 mS2
  repeat' split
  all_goals first
    | exact (h.I (q (by omega)) _ _).F (q (by omega)) _ _
    | exact ((h.F (q (by omega)) _ _).I (q (by omega)) _ _).F (q (by omega)) _ _
    | exact (h.F (q (by omega)) _ _).I (q (by omega)) _ _
theorem fr.mask (h : fr (Sm m) N M') (p : Nat) : fr (Sm m) N (mA1 M' m p) := by
  have q : ∀ {i}, i < 34 → Sm m (m i) := fun h => Sm.mk h
  unfold mA1 mAsk
  repeat' split
  all_goals first
    | exact h
    | exact ((h.I (q (by omega)) _ _).I (q (by omega)) _ _).note _ _
    | exact h.I (q (by omega)) _ _
    | exact (h.I (q (by omega)) _ _).msense p
    | exact (((h.I (q (by omega)) _ _).I (q (by omega)) _ _).note _ _).msense p
theorem fr.maskN (h : fr (Sm m) N M') : ∀ i, fr (Sm m) N (mAskN m i M')
  | 0 => h
  | i + 1 => by
    rw [mAskN]
    exact (fr.maskN h i).mask i
theorem fr.bz (h : fr (Sm m) N M') : ∀ i, fr (Sm m) N (mBz m i M').2
  | 0 => h
  | i + 1 => by
    have ih := fr.bz h i
    rw [mBz]
    unfold mBz1
    generalize mBz m i M' = B at ih ⊢
    split
    · exact ih
    · exact ((ih.I (Sm.mk (by omega)) _ _).note _ _).I (Sm.mk (by omega)) _ _
theorem fr.dh : ∀ (k r : Nat) (M' : pM), fr (Sm m) N M' → fr (Sm m) N (mDh m k r M')
  | 0, r, M', h => h
  | k + 1, r, M', h => by
    rw [mDh]
    split
    · exact h
    · unfold mDh1
      exact fr.dh k (r + 1) _ (h.I (Sm.mk (by omega)) _ _)
theorem fr.mdr (h : fr (Sm m) N M') : ∀ i, fr (Sm m) N (mDr m i M')
  | 0 => h
  | i + 1 => by
    have ih := fr.mdr h i
    rw [mDr]
    unfold mDr1
    generalize mDr m i M' = B at ih ⊢
    repeat' split
    · exact ih.I (Sm.mk (by omega)) _ _
    · exact (ih.note _ _).I (Sm.mk (by omega)) _ _
    · exact ih.I (Sm.mk (by omega)) _ _
theorem fr.mpoll : fr (Sm m) N (mPoll N m).2 := by
  unfold mPoll mDrive mP2 mP1 mP0
  have h0 : fr (Sm m) N (pI (pI N (m 0) 0 0) (m 0) 25 (N.1 (m 0) 25 + 1)) := (fr.rf.I (Sm.mk (by omega)) _ _).I (Sm.mk (by omega)) _ _
  have h1 := h0.maskN 16
  generalize mAskN m 16 (pI (pI N (m 0) 0 0) (m 0) 25 (N.1 (m 0) 25 + 1)) = N1 at h1 ⊢
  have h2 := h1.bz 4
  generalize mBz m 4 N1 = N2 at h2 ⊢
  have h3 := fr.dh 7 0 N2.2 h2
  generalize mDh m 7 0 N2.2 = N3 at h3 ⊢
  have h4 := h3.mdr 6
  generalize mDr m 6 N3 = N4 at h4 ⊢
  exact h4
theorem frm_fit (p k z : Int32) (t : UInt32) : fr (Sm m) N (mFit N m p k z t) := by
  have q : ∀ {i}, i < 34 → Sm m (m i) := fun h => Sm.mk h
  unfold mFit
  split
  · exact (((((((((fr.rf.I (q (by omega)) _ _).I (q (by omega)) _ _).I (q (by omega)) _ _).F (q (by omega)) _ _).F (q (by omega)) _ _).F (q (by omega)) _ _).I (q (by omega)) _ _).I (q (by omega)) _ _).I (q (by omega)) _ _).I (q (by omega)) _ _
  · exact fr.rf.I (q (by omega)) _ _
theorem frm_need (p k : Int32) : fr (Sm m) N (mNeed N m p k) := by
  unfold mNeed
  split
  · exact (fr.rf.I (Sm.mk (by omega)) _ _).I (Sm.mk (by omega)) _ _
  · exact fr.rf.I (Sm.mk (by omega)) _ _
theorem frm_wire (p k : Int32) : fr (Sm m) N (mWire N m p k) := by
  unfold mWire
  split
  · exact (fr.rf.I (Sm.mk (by omega)) _ _).I (Sm.mk (by omega)) _ _
  · exact fr.rf.I (Sm.mk (by omega)) _ _
theorem frm_reading (p : Int32) (v : UInt32) : fr (Sm m) N (mRd N m p v) := by
  unfold mRd
  split
  · exact (fr.rf.I (Sm.mk (by omega)) _ _).F (Sm.mk (by omega)) _ _
  · exact fr.rf.I (Sm.mk (by omega)) _ _
theorem frm_type (c : Int32) : fr (Sm m) N (mType N m c).2 := by
  unfold mType
  repeat' split
  all_goals first
    | exact fr.rf.I (Sm.mk (by omega)) _ _
    | exact ((fr.rf.I (Sm.mk (by omega)) _ _).I (Sm.mk (by omega)) _ _).I (Sm.mk (by omega)) _ _
theorem fr.moffN (h : fr (Sm m) N M') : ∀ i, fr (Sm m) N (mOffN m i M')
  | 0 => h
  | i + 1 => by
    rw [mOffN]
    exact (fr.moffN h i).I (Sm.mk (by omega)) _ _
theorem frm_forget : fr (Sm m) N (mForg N m).2 := by
  unfold mForg
  split
  · exact ((fr.rf.I (Sm.mk (by omega)) _ _).I (Sm.mk (by omega)) _ _).moffN 6
  · exact fr.rf.I (Sm.mk (by omega)) _ _
theorem frm_silence : fr (Sm m) N (mSil N m).2 := by
  unfold mSil
  repeat' split
  all_goals first
    | exact fr.rf.I (Sm.mk (by omega)) _ _
    | exact ((fr.rf.I (Sm.mk (by omega)) _ _).I (Sm.mk (by omega)) _ _).note _ _
theorem fr.rf4 (h : fr (Sm m) N M') : ∀ i, fr (Sm m) N (mRf m i M').2
  | 0 => h
  | i + 1 => by
    rw [mRf]
    exact (fr.rf4 h i).I (Sm.mk (by omega)) _ _
theorem fr.ra (h : fr (Sm m) N M') : ∀ i, fr (Sm m) N (mRa m i M')
  | 0 => h
  | i + 1 => by
    rw [mRa]
    exact ((fr.ra h i).I (Sm.mk (by omega)) _ _).I (Sm.mk (by omega)) _ _
theorem fr.rh (h : fr (Sm m) N M') : ∀ i, fr (Sm m) N (mRh m i M')
  | 0 => h
  | i + 1 => by
    rw [mRh]
    exact ((fr.rh h i).I (Sm.mk (by omega)) _ _).I (Sm.mk (by omega)) _ _
theorem frm_reset : fr (Sm m) N (mRes N m).2 := by
  unfold mRes
  split
  · have h1 := (fr.rf.I (S := Sm m) (M := N) (Sm.mk (i := 0) (by omega)) 0 0).rf4 4
    generalize mRf m 4 (pI N (m 0) 0 0) = N1 at h1 ⊢
    have h2 := h1.ra 16
    generalize mRa m 16 N1.2 = N2 at h2 ⊢
    have h3 := h2.rh 6
    generalize mRh m 6 N2 = N3 at h3 ⊢
    exact (h3.I (Sm.mk (by omega)) _ _).note _ _
  · exact fr.rf.I (Sm.mk (by omega)) _ _
theorem frm_off (z p f : Int32) : fr (Sm m) N (mOff N m z p f).2 := by
  unfold mOff
  repeat' split
  all_goals first
    | exact fr.rf.I (Sm.mk (by omega)) _ _
    | exact ((fr.rf.I (Sm.mk (by omega)) _ _).I (Sm.mk (by omega)) _ _).note _ _
theorem frm_thrown (v : Int32) : fr (Sm m) N (pI N (m 0) 0 v) := fr.rf.I (Sm.mk (by omega)) _ _
theorem fr.td : ∀ (W : Nat) (M' : pM), fr (Sm m) N M' → fr (Sm m) N (mTd m W M')
  | 0, M', h => h
  | W + 1, M', h => by
    rw [mTd]
    split
    · exact h
    · unfold mWord
      exact fr.td W _ (((h.I (Sm.mk (by omega)) _ _).I (Sm.mk (by omega)) _ _).I (Sm.mk (by omega)) _ _)
theorem fr.tdd (h : fr (Sm m) N M') : fr (Sm m) N (mTdd M' m) := fr.td _ _ h
theorem fr.word (h : fr (Sm m) N M') (v : Int32) : fr (Sm m) N (mWord M' m v) := (h.I (Sm.mk (by omega)) _ _).I (Sm.mk (by omega)) _ _
theorem fr.put (h : fr (Sm m) N M') (v : Int32) : fr (Sm m) N (mPut M' m v) := (h.I (Sm.mk (by omega)) _ _).I (Sm.mk (by omega)) _ _
theorem fr.cd : ∀ (f : Nat) (t : Int32) (k : Nat) (M' : pM), fr (Sm m) N M' → fr (Sm m) N (mCd m f t k M').2
  | 0, t, k, M', h => h
  | f + 1, t, k, M', h => by
    rw [mCd]
    split
    · exact h
    split
    · split
      · exact fr.cd f _ _ _ (h.put _)
      split
      · exact fr.cd f _ _ _ (h.put _)
      split
      · split
        · exact h
        · exact fr.cd f _ _ _ ((h.I (Sm.mk (by omega)) _ _).tdd)
      split
      · split
        · exact h
        · exact h
      · exact h
    · split
      · split
        · exact h
        · exact fr.cd f _ _ _ (h.put _)
      split
      · exact fr.cd f _ _ _ ((h.word _).tdd)
      split
      · split
        · exact h
        split
        · exact fr.cd f _ _ _ ((h.word _).tdd)
        · exact h
      · exact h
theorem fr.cp (r : Nat) (h : fr (Sm m) N M') : ∀ i, fr (Sm m) N (mCpN m r i M')
  | 0 => h
  | i + 1 => by
    rw [mCpN]
    exact (fr.cp r h i).I (Sm.mk (by omega)) _ _
theorem frm_rule : fr (Sm m) N (mRule N m).2 := by
  have h0 : fr (Sm m) N (mRuR N m).2 := by
    unfold mRuR mRead mCond
    have h1 := fr.cd (m := m) (N := N) (((pI N (m 0) 0 0).1 (m 0) 23).toNatClampNeg + 1) 1 0 (pI (pI (pI N (m 0) 0 0) (m 0) 30 0) (m 0) 32 0) (((fr.rf.I (Sm.mk (by omega)) _ _).I (Sm.mk (by omega)) _ _).I (Sm.mk (by omega)) _ _)
    generalize mCd m (((pI N (m 0) 0 0).1 (m 0) 23).toNatClampNeg + 1) 1 0 (pI (pI (pI N (m 0) 0 0) (m 0) 30 0) (m 0) 32 0) = C at h1 ⊢
    split
    · unfold mRead2 mRdW
      repeat' split
      all_goals first
        | exact h1
        | exact ((((fr.cp _ h1 _).I (Sm.mk (by omega)) _ _).I (Sm.mk (by omega)) _ _).I (Sm.mk (by omega)) _ _).I (Sm.mk (by omega)) _ _
    · exact h1
  have h1 : fr (Sm m) N (mRuM N m) := by
    unfold mRuM
    exact h0.I (Sm.mk (by omega)) _ _
  unfold mRule
  repeat' split
  · exact h1.I (Sm.mk (by omega)) _ _
  · exact h1
  · exact fr.rf.I (Sm.mk (by omega)) _ _
/-! one memory -/
theorem Sim.frN {Z : Nat → UInt32 → Prop} {w kd : Nat → Int32} {R n : Nat} {N' : pM} (h : Sim Z a m w kd R n M N) (g : ∀ k, k < 34 → N'.1 (m k) = N.1 (m k) ∧ N'.2 (m k) = N.2 (m k)) : Sim Z a m w kd R n M N' := by
  obtain ⟨h1, h2, h3, h4, h5, h6, h7, h8⟩ := h
  refine ⟨fun i s k t e => ?_, fun p s hp hs2 hs5 => ?_, ⟨h3.1, h3.2.1, fun r hr => ?_⟩, ⟨h4.1, h4.2.1, fun j hj => ?_⟩, h5, h6, h7, h8⟩
  · obtain ⟨u1, u2, u3, -⟩ := sT_of e
    rw [(g k u3).1]; exact h1 _ _ _ _ e
  · rw [(g (s + 2) (by omega)).2]; exact h2 p s hp hs2 hs5
  · exact (h3.2.2 r hr).fr rfl rfl (g 17 (by omega)).1 (g 18 (by omega)).1 (g 19 (by omega)).1 (g 20 (by omega)).1 (g 21 (by omega)).1
  · rw [(g 24 (by omega)).1]; exact h4.2.2 j hj
theorem Sim.frM {Z : Nat → UInt32 → Prop} {w kd : Nat → Int32} {R n : Nat} {M' : pM} (h : Sim Z a m w kd R n M N) (g : ∀ i, i < 43 → M'.1 (a i) = M.1 (a i) ∧ M'.2 (a i) = M.2 (a i)) : Sim Z a m w kd R n M' N := by
  obtain ⟨h1, h2, h3, h4, h5, h6, h7, h8⟩ := h
  refine ⟨fun i s k t e => ?_, fun p s hp hs2 hs5 => ?_, ⟨h3.1, ?_, fun r hr => ?_⟩, ⟨h4.1, ?_, fun j hj => ?_⟩, ?_, fun p hp => ?_, ⟨fun k hk => ?_, fun p hp => ?_⟩, fun p s hp hs2 hs5 => ?_⟩
  · obtain ⟨u1, u2, u3, -⟩ := sT_of e
    rw [(g i u2).1]; exact h1 _ _ _ _ e
  · rw [(g (3 + p) (by omega)).2]; exact h2 p s hp hs2 hs5
  · rw [(g 0 (by omega)).1]; exact h3.2.1
  · have hR := h3.1
    exact (h3.2.2 r hr).fr (g (26 + r) (by omega)).1 (g (32 + r) (by omega)).1 rfl rfl rfl rfl rfl
  · rw [(g 39 (by omega)).1]; exact h4.2.1
  · rw [(g 40 (by omega)).1]; exact h4.2.2 j hj
  · unfold sEnt
    rw [(g 41 (by omega)).1]; exact h5
  · rw [(g (3 + p) (by omega)).1]; exact h6 p hp
  · rw [(g 19 (by omega)).1]; exact h7.1 k hk
  · rw [(g (3 + p) (by omega)).1]; exact h7.2 p hp
  · rw [(g (3 + p) (by omega)).2]; exact h8 p s hp hs2 hs5
/-- no cell is both -/
def sAp (a m : Nat → Nat) : Prop := ∀ i k, i < 43 → k < 34 → a i ≠ m k
theorem simP.x {Z : Nat → UInt32 → Prop} {M1 : pM} (B : sAp a m) (h : simP Z a m M M) (f : fr (Sa a) M M1) : simP Z a m M M1 := by
  obtain ⟨w, kd, R, n, h⟩ := h
  exact ⟨w, kd, R, n, h.frN fun k hk => f _ (fun ⟨i, hi, e⟩ => B i k hi hk e.symm)⟩
theorem simP.mm {Z : Nat → UInt32 → Prop} {M1 M2 : pM} (B : sAp a m) (h : simP Z a m M1 M2) (f : fr (Sm m) M1 M2) : simP Z a m M2 M2 := by
  obtain ⟨w, kd, R, n, h⟩ := h
  exact ⟨w, kd, R, n, h.frM fun i hi => f _ (fun ⟨k, hk, e⟩ => B i k hi hk e)⟩
end SIM14
