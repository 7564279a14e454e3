/-! THE HELPERS OF THE LAW: the code of the outcome; the answer goes into the long or the double cell. -/
def lO (o : xOut) (b : Nat → Int64) : Nat → Int64 := match o with
  | .inl _ => vp_updL b 0 (oV o).toInt64
  | .inr _ => b
def lD (o : xOut) (v : Nat → UInt64) : Nat → UInt64 := match o with
  | .inl _ => vf_upd v 0 (FP.f2d (oF o))
  | .inr _ => v
section HELP
variable {a : Nat → Nat} {M : pM}
theorem oR_fit {p k z : Int32} {t : UInt32} {r : Option Value × pM} (h : xFitO a M p k z t = .inl r) : r.1 = none := by
  unfold xFitO at h
  (repeat' split at h) <;> first | (cases h; done) | (cases h; rfl)
theorem oC_fit {p k z : Int32} {t : UInt32} {c : String} (h : xFitO a M p k z t = .inr c) : c = xNSE ∨ c = xIAE ∨ c = xISE := by
  unfold xFitO at h
  (repeat' split at h) <;> first | (cases h; done) | (cases h; exact Or.inl rfl) | (cases h; exact Or.inr (Or.inl rfl)) | (cases h; exact Or.inr (Or.inr rfl))
theorem k_L_fit {l : Launch} (hlt : l.stackTraces = false) {D : va_G} {cy : Nat → ClassId} {X : va_W} {G : pG} {p k z : Int32} {t : UInt32} (hX : wX G a) : jKH l yL_fit wsL_fit ({ frames := 8, cells := 5, slots := 30, locals := 135 } : Room) D cy X G M [.ref (a 0), .int p, .int k, .int z, .float t] (some (.int (oK k3 (xFitO a M p k z t)))) X (oM (xFitO a M p k z t) M) 5 30 := by
  refine jKH_of hlt (own := RL) (by decide) rfl rfl (Nat.le_of_ble_eq_true rfl) (fun C E hT hl hD hcy hG => ?_)
  subst hl; subst hD; subst hcy; subst hG
  have hx1 := hX.1.1
  have hx2 := hX.1.2.1
  have hk := k_X6_fit (D := jD C) (cy := jcy C) (X := X) (M := M) (p := p) (k := k) (z := z) (t := t) hlt hX
  refine j_aload_n E dL_fit_0 rfl rfl ?_
  refine j_iload_n E dL_fit_1 rfl rfl ?_
  refine j_iload_n E dL_fit_2 rfl rfl ?_
  refine j_iload_n E dL_fit_3 rfl rfl ?_
  refine j_fload E dL_fit_4 rfl ?_
  cases ho : xFitO a M p k z t with
  | inl r =>
    obtain ⟨r1, M2⟩ := r
    have e : r1 = none := oR_fit ho
    subst e
    rw [ho] at hk
    refine j_xV_ok0 (ci := 6) (n := 4) E hT.2.2.1 hk dL_fit_6 gL_fit_X6_fit rfl (by decide +kernel) ⟨rfl, rfl, by decide, by decide⟩ ⟨by decide, by decide⟩ hx1 hx2 rfl rfl rfl (Nat.le_of_ble_eq_true rfl) ?_
    refine j_goto E dL_fit_9 (tgt := 24) (by decide) ?_
    refine j_iconst E dL_fit_24 (v := 0) (by decide) ?_
    exact jH_iret E dL_fit_25 rfl rfl rfl (by decide) (by decide)
  | inr c =>
    rw [ho] at hk
    rcases oC_fit ho with e | e | e
    · subst e
      refine j_xV_catch (ci := 6) (n := 4) E hT hk dL_fit_6 gL_fit_X6_fit rfl (by decide +kernel) ⟨rfl, rfl, by decide, by decide⟩ ⟨by decide, by decide⟩ hx1 hx2 rfl rfl rfl (Nat.le_of_ble_eq_true rfl) [] _ _ rfl (fun _ h => by cases h) (by decide) (by decide) (by decide +kernel) (by decide) (tgt := 12) rfl (fun q => ?_)
      refine j_astore E dL_fit_12 (by decide) ?_
      refine j_iconst E dL_fit_14 (v := 1) (by decide) ?_
      exact jH_iret E dL_fit_15 (by decide) rfl rfl (by decide) (by decide)
    · subst e
      refine j_xV_catch (ci := 6) (n := 4) E hT hk dL_fit_6 gL_fit_X6_fit rfl (by decide +kernel) ⟨rfl, rfl, by decide, by decide⟩ ⟨by decide, by decide⟩ hx1 hx2 rfl rfl rfl (Nat.le_of_ble_eq_true rfl) [_] _ _ rfl (List.forall_mem_singleton.mpr ⟨by decide, xNSE, by decide +kernel, hT.2.2.2.1⟩) (by decide) (by decide) (by decide +kernel) (by decide) (tgt := 16) rfl (fun q => ?_)
      refine j_astore E dL_fit_16 (by decide) ?_
      refine j_iconst E dL_fit_18 (v := 2) (by decide) ?_
      exact jH_iret E dL_fit_19 (by decide) rfl rfl (by decide) (by decide)
    · subst e
      refine j_xV_catch (ci := 6) (n := 4) E hT hk dL_fit_6 gL_fit_X6_fit rfl (by decide +kernel) ⟨rfl, rfl, by decide, by decide⟩ ⟨by decide, by decide⟩ hx1 hx2 rfl rfl rfl (Nat.le_of_ble_eq_true rfl) [_, _] _ _ rfl (List.forall_mem_cons.mpr ⟨⟨by decide, xNSE, by decide +kernel, hT.2.2.2.2.1⟩, List.forall_mem_singleton.mpr ⟨by decide, xIAE, by decide +kernel, hT.2.2.2.2.2⟩⟩) (by decide) (by decide) (by decide +kernel) (by decide) (tgt := 20) rfl (fun q => ?_)
      refine j_astore E dL_fit_20 (by decide) ?_
      refine j_iconst E dL_fit_22 (v := 3) (by decide) ?_
      exact jH_iret E dL_fit_23 (by decide) rfl rfl (by decide) (by decide)
theorem oR_need {p n : Int32} {r : Option Value × pM} (h : xNeedO a M p n = .inl r) : r.1 = none := by
  unfold xNeedO at h
  (repeat' split at h) <;> first | (cases h; done) | (cases h; rfl)
theorem oC_need {p n : Int32} {c : String} (h : xNeedO a M p n = .inr c) : c = xNSE ∨ c = xIAE ∨ c = xISE := by
  unfold xNeedO at h
  (repeat' split at h) <;> first | (cases h; done) | (cases h; exact Or.inl rfl) | (cases h; exact Or.inr (Or.inl rfl)) | (cases h; exact Or.inr (Or.inr rfl))
theorem k_L_need {l : Launch} (hlt : l.stackTraces = false) {D : va_G} {cy : Nat → ClassId} {X : va_W} {G : pG} {p n : Int32} (hX : wX G a) : jKH l yL_need wsL_need ({ frames := 8, cells := 3, slots := 18, locals := 133 } : Room) D cy X G M [.ref (a 0), .int p, .int n] (some (.int (oK k3 (xNeedO a M p n)))) X (oM (xNeedO a M p n) M) 3 18 := by
  refine jKH_of hlt (own := RL) (by decide) rfl rfl (Nat.le_of_ble_eq_true rfl) (fun C E hT hl hD hcy hG => ?_)
  subst hl; subst hD; subst hcy; subst hG
  have hx1 := hX.1.1
  have hx2 := hX.1.2.1
  have hk := k_X6_need (D := jD C) (cy := jcy C) (X := X) (M := M) (p := p) (n := n) hlt hX
  refine j_aload_n E dL_need_0 rfl rfl ?_
  refine j_iload_n E dL_need_1 rfl rfl ?_
  refine j_iload_n E dL_need_2 rfl rfl ?_
  cases ho : xNeedO a M p n with
  | inl r =>
    obtain ⟨r1, M2⟩ := r
    have e : r1 = none := oR_need ho
    subst e
    rw [ho] at hk
    refine j_xV_ok0 (ci := 6) (n := 2) E hT.2.2.1 hk dL_need_3 gL_need_X6_need rfl (by decide +kernel) ⟨rfl, rfl, by decide, by decide⟩ ⟨by decide, by decide⟩ hx1 hx2 rfl rfl rfl (Nat.le_of_ble_eq_true rfl) ?_
    refine j_goto E dL_need_6 (tgt := 18) (by decide) ?_
    refine j_iconst E dL_need_18 (v := 0) (by decide) ?_
    exact jH_iret E dL_need_19 rfl rfl rfl (by decide) (by decide)
  | inr c =>
    rw [ho] at hk
    rcases oC_need ho with e | e | e
    · subst e
      refine j_xV_catch (ci := 6) (n := 2) E hT hk dL_need_3 gL_need_X6_need rfl (by decide +kernel) ⟨rfl, rfl, by decide, by decide⟩ ⟨by decide, by decide⟩ hx1 hx2 rfl rfl rfl (Nat.le_of_ble_eq_true rfl) [] _ _ rfl (fun _ h => by cases h) (by decide) (by decide) (by decide +kernel) (by decide) (tgt := 9) rfl (fun q => ?_)
      refine j_astore_n E dL_need_9 rfl (by decide) ?_
      refine j_iconst E dL_need_10 (v := 1) (by decide) ?_
      exact jH_iret E dL_need_11 (by decide) rfl rfl (by decide) (by decide)
    · subst e
      refine j_xV_catch (ci := 6) (n := 2) E hT hk dL_need_3 gL_need_X6_need rfl (by decide +kernel) ⟨rfl, rfl, by decide, by decide⟩ ⟨by decide, by decide⟩ hx1 hx2 rfl rfl rfl (Nat.le_of_ble_eq_true rfl) [_] _ _ rfl (List.forall_mem_singleton.mpr ⟨by decide, xNSE, by decide +kernel, hT.2.2.2.1⟩) (by decide) (by decide) (by decide +kernel) (by decide) (tgt := 12) rfl (fun q => ?_)
      refine j_astore_n E dL_need_12 rfl (by decide) ?_
      refine j_iconst E dL_need_13 (v := 2) (by decide) ?_
      exact jH_iret E dL_need_14 (by decide) rfl rfl (by decide) (by decide)
    · subst e
      refine j_xV_catch (ci := 6) (n := 2) E hT hk dL_need_3 gL_need_X6_need rfl (by decide +kernel) ⟨rfl, rfl, by decide, by decide⟩ ⟨by decide, by decide⟩ hx1 hx2 rfl rfl rfl (Nat.le_of_ble_eq_true rfl) [_, _] _ _ rfl (List.forall_mem_cons.mpr ⟨⟨by decide, xNSE, by decide +kernel, hT.2.2.2.2.1⟩, List.forall_mem_singleton.mpr ⟨by decide, xIAE, by decide +kernel, hT.2.2.2.2.2⟩⟩) (by decide) (by decide) (by decide +kernel) (by decide) (tgt := 15) rfl (fun q => ?_)
      refine j_astore_n E dL_need_15 rfl (by decide) ?_
      refine j_iconst E dL_need_16 (v := 3) (by decide) ?_
      exact jH_iret E dL_need_17 (by decide) rfl rfl (by decide) (by decide)
theorem oR_wire {p h : Int32} {r : Option Value × pM} (h : xWireO a M p h = .inl r) : r.1 = none := by
  unfold xWireO at h
  (repeat' split at h) <;> first | (cases h; done) | (cases h; rfl)
theorem oC_wire {p h : Int32} {c : String} (h : xWireO a M p h = .inr c) : c = xNSE ∨ c = xIAE := by
  unfold xWireO at h
  (repeat' split at h) <;> first | (cases h; done) | (cases h; exact Or.inl rfl) | (cases h; exact Or.inr rfl)
theorem k_L_wire {l : Launch} (hlt : l.stackTraces = false) {D : va_G} {cy : Nat → ClassId} {X : va_W} {G : pG} {p q : Int32} (hX : wX G a) : jKH l yL_wire wsL_wire ({ frames := 8, cells := 2, slots := 12, locals := 133 } : Room) D cy X G M [.ref (a 0), .int p, .int q] (some (.int (oK k3 (xWireO a M p q)))) X (oM (xWireO a M p q) M) 2 12 := by
  refine jKH_of hlt (own := RL) (by decide) rfl rfl (Nat.le_of_ble_eq_true rfl) (fun C E hT hl hD hcy hG => ?_)
  subst hl; subst hD; subst hcy; subst hG
  have hx1 := hX.1.1
  have hx2 := hX.1.2.1
  have hk := k_X6_wire (D := jD C) (cy := jcy C) (X := X) (M := M) (p := p) (h := q) hlt hX
  refine j_aload_n E dL_wire_0 rfl rfl ?_
  refine j_iload_n E dL_wire_1 rfl rfl ?_
  refine j_iload_n E dL_wire_2 rfl rfl ?_
  cases ho : xWireO a M p q with
  | inl r =>
    obtain ⟨r1, M2⟩ := r
    have e : r1 = none := oR_wire ho
    subst e
    rw [ho] at hk
    refine j_xV_ok0 (ci := 6) (n := 2) E hT.2.2.1 hk dL_wire_3 gL_wire_X6_wire rfl (by decide +kernel) ⟨rfl, rfl, by decide, by decide⟩ ⟨by decide, by decide⟩ hx1 hx2 rfl rfl rfl (Nat.le_of_ble_eq_true rfl) ?_
    refine j_goto E dL_wire_6 (tgt := 15) (by decide) ?_
    refine j_iconst E dL_wire_15 (v := 0) (by decide) ?_
    exact jH_iret E dL_wire_16 rfl rfl rfl (by decide) (by decide)
  | inr c =>
    rw [ho] at hk
    rcases oC_wire ho with e | e
    · subst e
      refine j_xV_catch (ci := 6) (n := 2) E hT hk dL_wire_3 gL_wire_X6_wire rfl (by decide +kernel) ⟨rfl, rfl, by decide, by decide⟩ ⟨by decide, by decide⟩ hx1 hx2 rfl rfl rfl (Nat.le_of_ble_eq_true rfl) [] _ _ rfl (fun _ h => by cases h) (by decide) (by decide) (by decide +kernel) (by decide) (tgt := 9) rfl (fun q => ?_)
      refine j_astore_n E dL_wire_9 rfl (by decide) ?_
      refine j_iconst E dL_wire_10 (v := 1) (by decide) ?_
      exact jH_iret E dL_wire_11 (by decide) rfl rfl (by decide) (by decide)
    · subst e
      refine j_xV_catch (ci := 6) (n := 2) E hT hk dL_wire_3 gL_wire_X6_wire rfl (by decide +kernel) ⟨rfl, rfl, by decide, by decide⟩ ⟨by decide, by decide⟩ hx1 hx2 rfl rfl rfl (Nat.le_of_ble_eq_true rfl) [_] _ _ rfl (List.forall_mem_singleton.mpr ⟨by decide, xNSE, by decide +kernel, hT.2.2.2.1⟩) (by decide) (by decide) (by decide +kernel) (by decide) (tgt := 12) rfl (fun q => ?_)
      refine j_astore_n E dL_wire_12 rfl (by decide) ?_
      refine j_iconst E dL_wire_13 (v := 2) (by decide) ?_
      exact jH_iret E dL_wire_14 (by decide) rfl rfl (by decide) (by decide)
theorem oR_reading {p : Int32} {v : UInt32} {r : Option Value × pM} (h : xRdO a M p v = .inl r) : r.1 = none := by
  unfold xRdO at h
  (repeat' split at h) <;> first | (cases h; done) | (cases h; rfl)
theorem oC_reading {p : Int32} {v : UInt32} {c : String} (h : xRdO a M p v = .inr c) : c = xNSE ∨ c = xIAE := by
  unfold xRdO at h
  (repeat' split at h) <;> first | (cases h; done) | (cases h; exact Or.inl rfl) | (cases h; exact Or.inr rfl)
theorem k_L_reading {l : Launch} (hlt : l.stackTraces = false) {D : va_G} {cy : Nat → ClassId} {X : va_W} {G : pG} {p : Int32} {v : UInt32} (hX : wX G a) : jKH l yL_reading wsL_reading ({ frames := 8, cells := 2, slots := 12, locals := 133 } : Room) D cy X G M [.ref (a 0), .int p, .float v] (some (.int (oK k3 (xRdO a M p v)))) X (oM (xRdO a M p v) M) 2 12 := by
  refine jKH_of hlt (own := RL) (by decide) rfl rfl (Nat.le_of_ble_eq_true rfl) (fun C E hT hl hD hcy hG => ?_)
  subst hl; subst hD; subst hcy; subst hG
  have hx1 := hX.1.1
  have hx2 := hX.1.2.1
  have hk := k_X6_reading (D := jD C) (cy := jcy C) (X := X) (M := M) (p := p) (v := v) hlt hX
  refine j_aload_n E dL_reading_0 rfl rfl ?_
  refine j_iload_n E dL_reading_1 rfl rfl ?_
  refine j_fload_n E dL_reading_2 rfl rfl ?_
  cases ho : xRdO a M p v with
  | inl r =>
    obtain ⟨r1, M2⟩ := r
    have e : r1 = none := oR_reading ho
    subst e
    rw [ho] at hk
    refine j_xV_ok0 (ci := 6) (n := 2) E hT.2.2.1 hk dL_reading_3 gL_reading_X6_reading rfl (by decide +kernel) ⟨rfl, rfl, by decide, by decide⟩ ⟨by decide, by decide⟩ hx1 hx2 rfl rfl rfl (Nat.le_of_ble_eq_true rfl) ?_
    refine j_goto E dL_reading_6 (tgt := 15) (by decide) ?_
    refine j_iconst E dL_reading_15 (v := 0) (by decide) ?_
    exact jH_iret E dL_reading_16 rfl rfl rfl (by decide) (by decide)
  | inr c =>
    rw [ho] at hk
    rcases oC_reading ho with e | e
    · subst e
      refine j_xV_catch (ci := 6) (n := 2) E hT hk dL_reading_3 gL_reading_X6_reading rfl (by decide +kernel) ⟨rfl, rfl, by decide, by decide⟩ ⟨by decide, by decide⟩ hx1 hx2 rfl rfl rfl (Nat.le_of_ble_eq_true rfl) [] _ _ rfl (fun _ h => by cases h) (by decide) (by decide) (by decide +kernel) (by decide) (tgt := 9) rfl (fun q => ?_)
      refine j_astore_n E dL_reading_9 rfl (by decide) ?_
      refine j_iconst E dL_reading_10 (v := 1) (by decide) ?_
      exact jH_iret E dL_reading_11 (by decide) rfl rfl (by decide) (by decide)
    · subst e
      refine j_xV_catch (ci := 6) (n := 2) E hT hk dL_reading_3 gL_reading_X6_reading rfl (by decide +kernel) ⟨rfl, rfl, by decide, by decide⟩ ⟨by decide, by decide⟩ hx1 hx2 rfl rfl rfl (Nat.le_of_ble_eq_true rfl) [_] _ _ rfl (List.forall_mem_singleton.mpr ⟨by decide, xNSE, by decide +kernel, hT.2.2.2.1⟩) (by decide) (by decide) (by decide +kernel) (by decide) (tgt := 12) rfl (fun q => ?_)
      refine j_astore_n E dL_reading_12 rfl (by decide) ?_
      refine j_iconst E dL_reading_13 (v := 2) (by decide) ?_
      exact jH_iret E dL_reading_14 (by decide) rfl rfl (by decide) (by decide)
theorem oR_rule  {r : Option Value × pM} (h : xRuO a M = .inl r) : ∃ v, r.1 = some (.int v) := by
  unfold xRuO at h
  (repeat' split at h) <;> first | (cases h; done) | (cases h; exact ⟨_, rfl⟩)
theorem oC_rule  {c : String} (h : xRuO a M = .inr c) : c = xISE := by
  unfold xRuO at h
  (repeat' split at h) <;> first | (cases h; done) | (cases h; exact rfl)
theorem k_L_rule {l : Launch} (hlt : l.stackTraces = false) {D : va_G} {cy : Nat → ClassId} {h : Nat} {o : Nat → Int64} {v : Nat → UInt64} {G : pG}  (hX : wX G a) : jKH l yL_rule wsL_rule ({ frames := 14, cells := 2, slots := 12, locals := 318 } : Room) D cy (lX cy h o v) G M [.ref (a 0), .ref (h + 69)] (some (.int (oK k1 (xRuO a M)))) (lX cy h (lO (xRuO a M) o) v) (oM (xRuO a M) M) 2 12 := by
  refine jKH_of hlt (own := RL) (by decide) rfl rfl (Nat.le_of_ble_eq_true rfl) (fun C E hT hl hD hcy hG => ?_)
  subst hl; subst hD; subst hcy; subst hG
  have hx1 := hX.1.1
  have hx2 := hX.1.2.1
  have hk := k_X6_rule (D := jD C) (cy := jcy C) (X := (lX (jcy C) h o v)) (M := M)  hlt hX
  refine j_aload_n E dL_rule_0 rfl rfl ?_
  refine j_iconst E dL_rule_1 (v := 0) (by decide) ?_
  refine j_aload_n E dL_rule_2 rfl rfl ?_
  cases ho : xRuO a M with
  | inl r =>
    obtain ⟨r1, M2⟩ := r
    obtain ⟨x, e⟩ : ∃ x, r1 = some (.int x) := oR_rule ho
    subst e
    rw [ho] at hk
    refine j_xV_ok1 (ci := 6) (n := 0) E hT.2.2.1 hk dL_rule_3 gL_rule_X6_rule rfl (by decide +kernel) ⟨rfl, rfl, by decide, by decide⟩ ⟨by decide, by decide⟩ hx1 hx2 rfl rfl rfl (Nat.le_of_ble_eq_true rfl) ?_
    refine j_i2l E dL_rule_6 ?_
    refine j_last E dL_rule_7 ?_
    refine j_goto E dL_rule_8 (tgt := 14) (by decide) ?_
    refine j_iconst E dL_rule_14 (v := 0) (by decide) ?_
    exact jH_iret E dL_rule_15 rfl rfl rfl (by decide) (by decide)
  | inr c =>
    rw [ho] at hk
    have e := oC_rule ho
    subst e
    refine j_xV_catch (ci := 6) (n := 0) E hT hk dL_rule_3 gL_rule_X6_rule rfl (by decide +kernel) ⟨rfl, rfl, by decide, by decide⟩ ⟨by decide, by decide⟩ hx1 hx2 rfl rfl rfl (Nat.le_of_ble_eq_true rfl) [] _ _ rfl (fun _ h => by cases h) (by decide) (by decide) (by decide +kernel) (by decide) (tgt := 11) rfl (fun q => ?_)
    refine j_astore_n E dL_rule_11 rfl (by decide) ?_
    refine j_iconst E dL_rule_12 (v := 1) (by decide) ?_
    exact jH_iret E dL_rule_13 (by decide) rfl rfl (by decide) (by decide)
theorem oR_forget  {r : Option Value × pM} (h : xForgO a M = .inl r) : ∃ v, r.1 = some (.int v) := by
  unfold xForgO at h
  (repeat' split at h) <;> first | (cases h; done) | (cases h; exact ⟨_, rfl⟩)
theorem oC_forget  {c : String} (h : xForgO a M = .inr c) : c = xISE := by
  unfold xForgO at h
  (repeat' split at h) <;> first | (cases h; done) | (cases h; exact rfl)
theorem k_L_forget {l : Launch} (hlt : l.stackTraces = false) {D : va_G} {cy : Nat → ClassId} {h : Nat} {o : Nat → Int64} {v : Nat → UInt64} {G : pG}  (hX : wX G a) : jKH l yL_forget wsL_forget ({ frames := 8, cells := 1, slots := 6, locals := 132 } : Room) D cy (lX cy h o v) G M [.ref (a 0), .ref (h + 69)] (some (.int (oK k1 (xForgO a M)))) (lX cy h (lO (xForgO a M) o) v) (oM (xForgO a M) M) 1 6 := by
  refine jKH_of hlt (own := RL) (by decide) rfl rfl (Nat.le_of_ble_eq_true rfl) (fun C E hT hl hD hcy hG => ?_)
  subst hl; subst hD; subst hcy; subst hG
  have hx1 := hX.1.1
  have hx2 := hX.1.2.1
  have hk := k_X6_forget (D := jD C) (cy := jcy C) (X := (lX (jcy C) h o v)) (M := M)  hlt hX
  refine j_aload_n E dL_forget_0 rfl rfl ?_
  refine j_iconst E dL_forget_1 (v := 0) (by decide) ?_
  refine j_aload_n E dL_forget_2 rfl rfl ?_
  cases ho : xForgO a M with
  | inl r =>
    obtain ⟨r1, M2⟩ := r
    obtain ⟨x, e⟩ : ∃ x, r1 = some (.int x) := oR_forget ho
    subst e
    rw [ho] at hk
    refine j_xV_ok1 (ci := 6) (n := 0) E hT.2.2.1 hk dL_forget_3 gL_forget_X6_forget rfl (by decide +kernel) ⟨rfl, rfl, by decide, by decide⟩ ⟨by decide, by decide⟩ hx1 hx2 rfl rfl rfl (Nat.le_of_ble_eq_true rfl) ?_
    refine j_i2l E dL_forget_6 ?_
    refine j_last E dL_forget_7 ?_
    refine j_goto E dL_forget_8 (tgt := 14) (by decide) ?_
    refine j_iconst E dL_forget_14 (v := 0) (by decide) ?_
    exact jH_iret E dL_forget_15 rfl rfl rfl (by decide) (by decide)
  | inr c =>
    rw [ho] at hk
    have e := oC_forget ho
    subst e
    refine j_xV_catch (ci := 6) (n := 0) E hT hk dL_forget_3 gL_forget_X6_forget rfl (by decide +kernel) ⟨rfl, rfl, by decide, by decide⟩ ⟨by decide, by decide⟩ hx1 hx2 rfl rfl rfl (Nat.le_of_ble_eq_true rfl) [] _ _ rfl (fun _ h => by cases h) (by decide) (by decide) (by decide +kernel) (by decide) (tgt := 11) rfl (fun q => ?_)
    refine j_astore_n E dL_forget_11 rfl (by decide) ?_
    refine j_iconst E dL_forget_12 (v := 1) (by decide) ?_
    exact jH_iret E dL_forget_13 (by decide) rfl rfl (by decide) (by decide)
theorem oR_silence  {r : Option Value × pM} (h : xSilO a M = .inl r) : r.1 = some (.int 0) ∨ r.1 = some (.int 1) := by
  unfold xSilO at h
  (repeat' split at h) <;> first | (cases h; done) | (cases h; exact Or.inl rfl) | (cases h; exact Or.inr rfl)
theorem oC_silence  {c : String} (h : xSilO a M = .inr c) : c = xISE := by
  unfold xSilO at h
  (repeat' split at h) <;> first | (cases h; done) | (cases h; exact rfl)
theorem k_L_silence {l : Launch} (hlt : l.stackTraces = false) {D : va_G} {cy : Nat → ClassId} {h : Nat} {o : Nat → Int64} {v : Nat → UInt64} {G : pG}  (hX : wX G a) : jKH l yL_silence wsL_silence ({ frames := 8, cells := 1, slots := 6, locals := 131 } : Room) D cy (lX cy h o v) G M [.ref (a 0), .ref (h + 69)] (some (.int (oK k1 (xSilO a M)))) (lX cy h (lO (xSilO a M) o) v) (oM (xSilO a M) M) 1 6 := by
  refine jKH_of hlt (own := RL) (by decide) rfl rfl (Nat.le_of_ble_eq_true rfl) (fun C E hT hl hD hcy hG => ?_)
  subst hl; subst hD; subst hcy; subst hG
  have hx1 := hX.1.1
  have hx2 := hX.1.2.1
  have hk := k_X6_silence (D := jD C) (cy := jcy C) (X := (lX (jcy C) h o v)) (M := M)  hlt hX
  refine j_aload_n E dL_silence_0 rfl rfl ?_
  refine j_iconst E dL_silence_1 (v := 0) (by decide) ?_
  refine j_aload_n E dL_silence_2 rfl rfl ?_
  cases ho : xSilO a M with
  | inl r =>
    obtain ⟨r1, M2⟩ := r
    have hz : r1 = some (.int 0) ∨ r1 = some (.int 1) := oR_silence ho
    rw [ho] at hk
    rcases hz with e | e
    · subst e
      refine j_xV_ok1 (ci := 6) (n := 0) E hT.2.2.1 hk dL_silence_3 gL_silence_X6_silence rfl (by decide +kernel) ⟨rfl, rfl, by decide, by decide⟩ ⟨by decide, by decide⟩ hx1 hx2 rfl rfl rfl (Nat.le_of_ble_eq_true rfl) ?_
      refine j_if_eq E dL_silence_6 (tgt := 13) (by decide) (fun _ => ?_) (fun q => absurd rfl q)
      refine j_lconst E dL_silence_13 (v := 0) (by decide) ?_
      refine j_last E dL_silence_14 ?_
      refine j_goto E dL_silence_15 (tgt := 21) (by decide) ?_
      refine j_iconst E dL_silence_21 (v := 0) (by decide) ?_
      exact jH_iret E dL_silence_22 rfl rfl rfl (by decide) (by decide)
    · subst e
      refine j_xV_ok1 (ci := 6) (n := 0) E hT.2.2.1 hk dL_silence_3 gL_silence_X6_silence rfl (by decide +kernel) ⟨rfl, rfl, by decide, by decide⟩ ⟨by decide, by decide⟩ hx1 hx2 rfl rfl rfl (Nat.le_of_ble_eq_true rfl) ?_
      refine j_if_eq E dL_silence_6 (tgt := 13) (by decide) (fun q => absurd q (by decide)) (fun _ => ?_)
      refine j_lconst E dL_silence_9 (v := 1) (by decide) ?_
      refine j_goto E dL_silence_10 (tgt := 14) (by decide) ?_
      refine j_last E dL_silence_14 ?_
      refine j_goto E dL_silence_15 (tgt := 21) (by decide) ?_
      refine j_iconst E dL_silence_21 (v := 0) (by decide) ?_
      exact jH_iret E dL_silence_22 rfl rfl rfl (by decide) (by decide)
  | inr c =>
    rw [ho] at hk
    have e := oC_silence ho
    subst e
    refine j_xV_catch (ci := 6) (n := 0) E hT hk dL_silence_3 gL_silence_X6_silence rfl (by decide +kernel) ⟨rfl, rfl, by decide, by decide⟩ ⟨by decide, by decide⟩ hx1 hx2 rfl rfl rfl (Nat.le_of_ble_eq_true rfl) [] _ _ rfl (fun _ h => by cases h) (by decide) (by decide) (by decide +kernel) (by decide) (tgt := 18) rfl (fun q => ?_)
    refine j_astore_n E dL_silence_18 rfl (by decide) ?_
    refine j_iconst E dL_silence_19 (v := 1) (by decide) ?_
    exact jH_iret E dL_silence_20 (by decide) rfl rfl (by decide) (by decide)
theorem oR_reset  {r : Option Value × pM} (h : xResO a M = .inl r) : ∃ v, r.1 = some (.int v) := by
  unfold xResO at h
  (repeat' split at h) <;> first | (cases h; done) | (cases h; exact ⟨_, rfl⟩)
theorem oC_reset  {c : String} (h : xResO a M = .inr c) : c = xISE := by
  unfold xResO at h
  (repeat' split at h) <;> first | (cases h; done) | (cases h; exact rfl)
theorem k_L_reset {l : Launch} (hlt : l.stackTraces = false) {D : va_G} {cy : Nat → ClassId} {h : Nat} {o : Nat → Int64} {v : Nat → UInt64} {G : pG}  (hX : wX G a) : jKH l yL_reset wsL_reset ({ frames := 8, cells := 1, slots := 6, locals := 145 } : Room) D cy (lX cy h o v) G M [.ref (a 0), .ref (h + 69)] (some (.int (oK k1 (xResO a M)))) (lX cy h (lO (xResO a M) o) v) (oM (xResO a M) M) 1 6 := by
  refine jKH_of hlt (own := RL) (by decide) rfl rfl (Nat.le_of_ble_eq_true rfl) (fun C E hT hl hD hcy hG => ?_)
  subst hl; subst hD; subst hcy; subst hG
  have hx1 := hX.1.1
  have hx2 := hX.1.2.1
  have hk := k_X6_reset (D := jD C) (cy := jcy C) (X := (lX (jcy C) h o v)) (M := M)  hlt hX
  refine j_aload_n E dL_reset_0 rfl rfl ?_
  refine j_iconst E dL_reset_1 (v := 0) (by decide) ?_
  refine j_aload_n E dL_reset_2 rfl rfl ?_
  cases ho : xResO a M with
  | inl r =>
    obtain ⟨r1, M2⟩ := r
    obtain ⟨x, e⟩ : ∃ x, r1 = some (.int x) := oR_reset ho
    subst e
    rw [ho] at hk
    refine j_xV_ok1 (ci := 6) (n := 0) E hT.2.2.1 hk dL_reset_3 gL_reset_X6_reset rfl (by decide +kernel) ⟨rfl, rfl, by decide, by decide⟩ ⟨by decide, by decide⟩ hx1 hx2 rfl rfl rfl (Nat.le_of_ble_eq_true rfl) ?_
    refine j_i2l E dL_reset_6 ?_
    refine j_last E dL_reset_7 ?_
    refine j_goto E dL_reset_8 (tgt := 14) (by decide) ?_
    refine j_iconst E dL_reset_14 (v := 0) (by decide) ?_
    exact jH_iret E dL_reset_15 rfl rfl rfl (by decide) (by decide)
  | inr c =>
    rw [ho] at hk
    have e := oC_reset ho
    subst e
    refine j_xV_catch (ci := 6) (n := 0) E hT hk dL_reset_3 gL_reset_X6_reset rfl (by decide +kernel) ⟨rfl, rfl, by decide, by decide⟩ ⟨by decide, by decide⟩ hx1 hx2 rfl rfl rfl (Nat.le_of_ble_eq_true rfl) [] _ _ rfl (fun _ h => by cases h) (by decide) (by decide) (by decide +kernel) (by decide) (tgt := 11) rfl (fun q => ?_)
    refine j_astore_n E dL_reset_11 rfl (by decide) ?_
    refine j_iconst E dL_reset_12 (v := 1) (by decide) ?_
    exact jH_iret E dL_reset_13 (by decide) rfl rfl (by decide) (by decide)
theorem oR_off {z p f : Int32} {r : Option Value × pM} (h : xOffO a M z p f = .inl r) : r.1 = some (.int 0) ∨ r.1 = some (.int 1) := by
  unfold xOffO xOfP xOfZ at h
  (repeat' split at h) <;> first | (cases h; done) | (cases h; exact Or.inl rfl) | (cases h; exact Or.inr rfl)
theorem oC_off {z p f : Int32} {c : String} (h : xOffO a M z p f = .inr c) : c = xNSE ∨ c = xISE := by
  unfold xOffO xOfP xOfZ at h
  (repeat' split at h) <;> first | (cases h; done) | (cases h; exact Or.inl rfl) | (cases h; exact Or.inr rfl)
theorem k_L_off {l : Launch} (hlt : l.stackTraces = false) {D : va_G} {cy : Nat → ClassId} {h : Nat} {o : Nat → Int64} {v : Nat → UInt64} {G : pG} {z p f : Int32} (hX : wX G a) (hf : f = 0 ∨ f = 1) : jKH l yL_off wsL_off ({ frames := 8, cells := 2, slots := 12, locals := 135 } : Room) D cy (lX cy h o v) G M [.ref (a 0), .int z, .int p, .int f, .ref (h + 69)] (some (.int (oK k2 (xOffO a M z p f)))) (lX cy h (lO (xOffO a M z p f) o) v) (oM (xOffO a M z p f) M) 2 12 := by
  refine jKH_of hlt (own := RL) (by decide) rfl rfl (Nat.le_of_ble_eq_true rfl) (fun C E hT hl hD hcy hG => ?_)
  subst hl; subst hD; subst hcy; subst hG
  have hx1 := hX.1.1
  have hx2 := hX.1.2.1
  have hk := k_X6_off (D := jD C) (cy := jcy C) (X := (lX (jcy C) h o v)) (M := M) (z := z) (p := p) (f := f) hlt hX hf
  refine j_aload E dL_off_0 rfl ?_
  refine j_iconst E dL_off_2 (v := 0) (by decide) ?_
  refine j_aload_n E dL_off_3 rfl rfl ?_
  refine j_iload_n E dL_off_4 rfl rfl ?_
  refine j_iload_n E dL_off_5 rfl rfl ?_
  refine j_iload_n E dL_off_6 rfl rfl ?_
  cases ho : xOffO a M z p f with
  | inl r =>
    obtain ⟨r1, M2⟩ := r
    have hz : r1 = some (.int 0) ∨ r1 = some (.int 1) := oR_off ho
    rw [ho] at hk
    rcases hz with e | e
    · subst e
      refine j_xV_ok1 (ci := 6) (n := 3) E hT.2.2.1 hk dL_off_7 gL_off_X6_off rfl (by decide +kernel) ⟨rfl, rfl, by decide, by decide⟩ ⟨by decide, by decide⟩ hx1 hx2 rfl rfl rfl (Nat.le_of_ble_eq_true rfl) ?_
      refine j_if_eq E dL_off_10 (tgt := 17) (by decide) (fun _ => ?_) (fun q => absurd rfl q)
      refine j_lconst E dL_off_17 (v := 0) (by decide) ?_
      refine j_last E dL_off_18 ?_
      refine j_goto E dL_off_19 (tgt := 30) (by decide) ?_
      refine j_iconst E dL_off_30 (v := 0) (by decide) ?_
      exact jH_iret E dL_off_31 rfl rfl rfl (by decide) (by decide)
    · subst e
      refine j_xV_ok1 (ci := 6) (n := 3) E hT.2.2.1 hk dL_off_7 gL_off_X6_off rfl (by decide +kernel) ⟨rfl, rfl, by decide, by decide⟩ ⟨by decide, by decide⟩ hx1 hx2 rfl rfl rfl (Nat.le_of_ble_eq_true rfl) ?_
      refine j_if_eq E dL_off_10 (tgt := 17) (by decide) (fun q => absurd q (by decide)) (fun _ => ?_)
      refine j_lconst E dL_off_13 (v := 1) (by decide) ?_
      refine j_goto E dL_off_14 (tgt := 18) (by decide) ?_
      refine j_last E dL_off_18 ?_
      refine j_goto E dL_off_19 (tgt := 30) (by decide) ?_
      refine j_iconst E dL_off_30 (v := 0) (by decide) ?_
      exact jH_iret E dL_off_31 rfl rfl rfl (by decide) (by decide)
  | inr c =>
    rw [ho] at hk
    rcases oC_off ho with e | e
    · subst e
      refine j_xV_catch (ci := 6) (n := 3) E hT hk dL_off_7 gL_off_X6_off rfl (by decide +kernel) ⟨rfl, rfl, by decide, by decide⟩ ⟨by decide, by decide⟩ hx1 hx2 rfl rfl rfl (Nat.le_of_ble_eq_true rfl) [] _ _ rfl (fun _ h => by cases h) (by decide) (by decide) (by decide +kernel) (by decide) (tgt := 22) rfl (fun q => ?_)
      refine j_astore E dL_off_22 (by decide) ?_
      refine j_iconst E dL_off_24 (v := 1) (by decide) ?_
      exact jH_iret E dL_off_25 (by decide) rfl rfl (by decide) (by decide)
    · subst e
      refine j_xV_catch (ci := 6) (n := 3) E hT hk dL_off_7 gL_off_X6_off rfl (by decide +kernel) ⟨rfl, rfl, by decide, by decide⟩ ⟨by decide, by decide⟩ hx1 hx2 rfl rfl rfl (Nat.le_of_ble_eq_true rfl) [_] _ _ rfl (List.forall_mem_singleton.mpr ⟨by decide, xNSE, by decide +kernel, hT.2.2.2.2.1⟩) (by decide) (by decide) (by decide +kernel) (by decide) (tgt := 26) rfl (fun q => ?_)
      refine j_astore E dL_off_26 (by decide) ?_
      refine j_iconst E dL_off_28 (v := 2) (by decide) ?_
      exact jH_iret E dL_off_29 (by decide) rfl rfl (by decide) (by decide)
theorem oR_level {p : Int32} {k : Nat} {r : Option Value × pM} (h : xLevO a M p k = .inl r) : ∃ v, r.1 = some (.float v) := by
  unfold xLevO at h
  (repeat' split at h) <;> first | (cases h; done) | (cases h; exact ⟨_, rfl⟩)
theorem oC_level {p : Int32} {k : Nat} {c : String} (h : xLevO a M p k = .inr c) : c = xNSE := by
  unfold xLevO at h
  (repeat' split at h) <;> first | (cases h; done) | (cases h; exact rfl)
theorem k_L_level {l : Launch} (hlt : l.stackTraces = false) {D : va_G} {cy : Nat → ClassId} {h : Nat} {o : Nat → Int64} {v : Nat → UInt64} {G : pG} {p : Int32} (hX : wX G a) (hok : ∀ p, p < 16 → vf_n32 (M.2 (a (3 + p)) 5)) : jKH l yL_level wsL_level ({ frames := 8, cells := 1, slots := 6, locals := 132 } : Room) D cy (lX cy h o v) G M [.ref (a 0), .int p, .ref (h + 70)] (some (.int (oK k1 (xLevO a M p 5)))) (lX cy h o (lD (xLevO a M p 5) v)) (oM (xLevO a M p 5) M) 1 6 := by
  refine jKH_of hlt (own := RL) (by decide) rfl rfl (Nat.le_of_ble_eq_true rfl) (fun C E hT hl hD hcy hG => ?_)
  subst hl; subst hD; subst hcy; subst hG
  have hx1 := hX.1.1
  have hx2 := hX.1.2.1
  have hk := k_X6_level (D := jD C) (cy := jcy C) (X := (lX (jcy C) h o v)) (M := M) (p := p) hlt hX
  refine j_aload_n E dL_level_0 rfl rfl ?_
  refine j_iconst E dL_level_1 (v := 0) (by decide) ?_
  refine j_aload_n E dL_level_2 rfl rfl ?_
  refine j_iload_n E dL_level_3 rfl rfl ?_
  cases ho : xLevO a M p 5 with
  | inl r =>
    obtain ⟨r1, M2⟩ := r
    obtain ⟨x, e⟩ : ∃ x, r1 = some (.float x) := oR_level ho
    subst e
    rw [ho] at hk
    have hnf : vf_n64 (FP.f2d x) := by
      unfold xLevO at ho
      by_cases c : xIn p 16 = true
      · obtain ⟨j, hj, -, ej⟩ := xIn_n (B := 16) rfl (by omega) c
        rw [if_pos c, show xC p = j from ej] at ho
        have e9 := congrArg (fun z : Option Value × pM => z.1) (Sum.inl.inj ho)
        cases e9
        exact Free.Fl.f2d_out (hok j hj)
      · rw [if_neg c] at ho; cases ho
    refine j_xV_ok1 (ci := 6) (n := 1) E hT.2.2.1 hk dL_level_4 gL_level_X6_level rfl (by decide +kernel) ⟨rfl, rfl, by decide, by decide⟩ ⟨by decide, by decide⟩ hx1 hx2 rfl rfl rfl (Nat.le_of_ble_eq_true rfl) ?_
    refine j_f2d E dL_level_7 hnf ?_
    refine j_dast E dL_level_8 ?_
    refine j_goto E dL_level_9 (tgt := 15) (by decide) ?_
    refine j_iconst E dL_level_15 (v := 0) (by decide) ?_
    exact jH_iret E dL_level_16 rfl rfl rfl (by decide) (by decide)
  | inr c =>
    rw [ho] at hk
    have e := oC_level ho
    subst e
    refine j_xV_catch (ci := 6) (n := 1) E hT hk dL_level_4 gL_level_X6_level rfl (by decide +kernel) ⟨rfl, rfl, by decide, by decide⟩ ⟨by decide, by decide⟩ hx1 hx2 rfl rfl rfl (Nat.le_of_ble_eq_true rfl) [] _ _ rfl (fun _ h => by cases h) (by decide) (by decide) (by decide +kernel) (by decide) (tgt := 12) rfl (fun q => ?_)
    refine j_astore_n E dL_level_12 rfl (by decide) ?_
    refine j_iconst E dL_level_13 (v := 1) (by decide) ?_
    exact jH_iret E dL_level_14 (by decide) rfl rfl (by decide) (by decide)
theorem k_L_base {l : Launch} (hlt : l.stackTraces = false) {D : va_G} {cy : Nat → ClassId} {h : Nat} {o : Nat → Int64} {v : Nat → UInt64} {G : pG} {p : Int32} (hX : wX G a) (hok : ∀ p, p < 16 → vf_n32 (M.2 (a (3 + p)) 4)) : jKH l yL_base wsL_base ({ frames := 8, cells := 1, slots := 6, locals := 132 } : Room) D cy (lX cy h o v) G M [.ref (a 0), .int p, .ref (h + 70)] (some (.int (oK k1 (xLevO a M p 4)))) (lX cy h o (lD (xLevO a M p 4) v)) (oM (xLevO a M p 4) M) 1 6 := by
  refine jKH_of hlt (own := RL) (by decide) rfl rfl (Nat.le_of_ble_eq_true rfl) (fun C E hT hl hD hcy hG => ?_)
  subst hl; subst hD; subst hcy; subst hG
  have hx1 := hX.1.1
  have hx2 := hX.1.2.1
  have hk := k_X6_base (D := jD C) (cy := jcy C) (X := (lX (jcy C) h o v)) (M := M) (p := p) hlt hX
  refine j_aload_n E dL_base_0 rfl rfl ?_
  refine j_iconst E dL_base_1 (v := 0) (by decide) ?_
  refine j_aload_n E dL_base_2 rfl rfl ?_
  refine j_iload_n E dL_base_3 rfl rfl ?_
  cases ho : xLevO a M p 4 with
  | inl r =>
    obtain ⟨r1, M2⟩ := r
    obtain ⟨x, e⟩ : ∃ x, r1 = some (.float x) := oR_level ho
    subst e
    rw [ho] at hk
    have hnf : vf_n64 (FP.f2d x) := by
      unfold xLevO at ho
      by_cases c : xIn p 16 = true
      · obtain ⟨j, hj, -, ej⟩ := xIn_n (B := 16) rfl (by omega) c
        rw [if_pos c, show xC p = j from ej] at ho
        have e9 := congrArg (fun z : Option Value × pM => z.1) (Sum.inl.inj ho)
        cases e9
        exact Free.Fl.f2d_out (hok j hj)
      · rw [if_neg c] at ho; cases ho
    refine j_xV_ok1 (ci := 6) (n := 1) E hT.2.2.1 hk dL_base_4 gL_base_X6_base rfl (by decide +kernel) ⟨rfl, rfl, by decide, by decide⟩ ⟨by decide, by decide⟩ hx1 hx2 rfl rfl rfl (Nat.le_of_ble_eq_true rfl) ?_
    refine j_f2d E dL_base_7 hnf ?_
    refine j_dast E dL_base_8 ?_
    refine j_goto E dL_base_9 (tgt := 15) (by decide) ?_
    refine j_iconst E dL_base_15 (v := 0) (by decide) ?_
    exact jH_iret E dL_base_16 rfl rfl rfl (by decide) (by decide)
  | inr c =>
    rw [ho] at hk
    have e := oC_level ho
    subst e
    refine j_xV_catch (ci := 6) (n := 1) E hT hk dL_base_4 gL_base_X6_base rfl (by decide +kernel) ⟨rfl, rfl, by decide, by decide⟩ ⟨by decide, by decide⟩ hx1 hx2 rfl rfl rfl (Nat.le_of_ble_eq_true rfl) [] _ _ rfl (fun _ h => by cases h) (by decide) (by decide) (by decide +kernel) (by decide) (tgt := 12) rfl (fun q => ?_)
    refine j_astore_n E dL_base_12 rfl (by decide) ?_
    refine j_iconst E dL_base_13 (v := 1) (by decide) ?_
    exact jH_iret E dL_base_14 (by decide) rfl rfl (by decide) (by decide)
theorem oR_place {p : Int32} {r : Option Value × pM} (h : xPlO a M p = .inl r) : ∃ v, r.1 = some (.int v) := by
  unfold xPlO at h
  (repeat' split at h) <;> first | (cases h; done) | (cases h; exact ⟨_, rfl⟩)
theorem oC_place {p : Int32} {c : String} (h : xPlO a M p = .inr c) : c = xNSE := by
  unfold xPlO at h
  (repeat' split at h) <;> first | (cases h; done) | (cases h; exact rfl)
theorem k_L_place {l : Launch} (hlt : l.stackTraces = false) {D : va_G} {cy : Nat → ClassId} {h : Nat} {o : Nat → Int64} {v : Nat → UInt64} {G : pG} {p : Int32} (hX : wX G a) : jKH l yL_place wsL_place ({ frames := 8, cells := 1, slots := 6, locals := 134 } : Room) D cy (lX cy h o v) G M [.ref (a 0), .int p, .ref (h + 69)] (some (.int (oK k1 (xPlO a M p)))) (lX cy h (lO (xPlO a M p) o) v) (oM (xPlO a M p) M) 1 6 := by
  refine jKH_of hlt (own := RL) (by decide) rfl rfl (Nat.le_of_ble_eq_true rfl) (fun C E hT hl hD hcy hG => ?_)
  subst hl; subst hD; subst hcy; subst hG
  have hx1 := hX.1.1
  have hx2 := hX.1.2.1
  have hk := k_X6_place (D := jD C) (cy := jcy C) (X := (lX (jcy C) h o v)) (M := M) (p := p) hlt hX
  refine j_aload_n E dL_place_0 rfl rfl ?_
  refine j_iconst E dL_place_1 (v := 0) (by decide) ?_
  refine j_aload_n E dL_place_2 rfl rfl ?_
  refine j_iload_n E dL_place_3 rfl rfl ?_
  cases ho : xPlO a M p with
  | inl r =>
    obtain ⟨r1, M2⟩ := r
    obtain ⟨x, e⟩ : ∃ x, r1 = some (.int x) := oR_place ho
    subst e
    rw [ho] at hk
    refine j_xV_ok1 (ci := 6) (n := 1) E hT.2.2.1 hk dL_place_4 gL_place_X6_place rfl (by decide +kernel) ⟨rfl, rfl, by decide, by decide⟩ ⟨by decide, by decide⟩ hx1 hx2 rfl rfl rfl (Nat.le_of_ble_eq_true rfl) ?_
    refine j_i2l E dL_place_7 ?_
    refine j_last E dL_place_8 ?_
    refine j_goto E dL_place_9 (tgt := 15) (by decide) ?_
    refine j_iconst E dL_place_15 (v := 0) (by decide) ?_
    exact jH_iret E dL_place_16 rfl rfl rfl (by decide) (by decide)
  | inr c =>
    rw [ho] at hk
    have e := oC_place ho
    subst e
    refine j_xV_catch (ci := 6) (n := 1) E hT hk dL_place_4 gL_place_X6_place rfl (by decide +kernel) ⟨rfl, rfl, by decide, by decide⟩ ⟨by decide, by decide⟩ hx1 hx2 rfl rfl rfl (Nat.le_of_ble_eq_true rfl) [] _ _ rfl (fun _ h => by cases h) (by decide) (by decide) (by decide +kernel) (by decide) (tgt := 12) rfl (fun q => ?_)
    refine j_astore_n E dL_place_12 rfl (by decide) ?_
    refine j_iconst E dL_place_13 (v := 1) (by decide) ?_
    exact jH_iret E dL_place_14 (by decide) rfl rfl (by decide) (by decide)
theorem oR_zone {p : Int32} {r : Option Value × pM} (h : xZoO a M p = .inl r) : ∃ v, r.1 = some (.int v) := by
  unfold xZoO at h
  (repeat' split at h) <;> first | (cases h; done) | (cases h; exact ⟨_, rfl⟩)
theorem oC_zone {p : Int32} {c : String} (h : xZoO a M p = .inr c) : c = xNSE := by
  unfold xZoO at h
  (repeat' split at h) <;> first | (cases h; done) | (cases h; exact rfl)
theorem k_L_zone {l : Launch} (hlt : l.stackTraces = false) {D : va_G} {cy : Nat → ClassId} {h : Nat} {o : Nat → Int64} {v : Nat → UInt64} {G : pG} {p : Int32} (hX : wX G a) (hok : ∀ i, i < 16 → okW M (a (3 + i))) : jKH l yL_zone wsL_zone ({ frames := 8, cells := 1, slots := 6, locals := 133 } : Room) D cy (lX cy h o v) G M [.ref (a 0), .int p, .ref (h + 69)] (some (.int (oK k1 (xZoO a M p)))) (lX cy h (lO (xZoO a M p) o) v) (oM (xZoO a M p) M) 1 6 := by
  refine jKH_of hlt (own := RL) (by decide) rfl rfl (Nat.le_of_ble_eq_true rfl) (fun C E hT hl hD hcy hG => ?_)
  subst hl; subst hD; subst hcy; subst hG
  have hx1 := hX.1.1
  have hx2 := hX.1.2.1
  have hk := k_X6_zone (D := jD C) (cy := jcy C) (X := (lX (jcy C) h o v)) (M := M) (p := p) hlt hX hok
  refine j_aload_n E dL_zone_0 rfl rfl ?_
  refine j_iconst E dL_zone_1 (v := 0) (by decide) ?_
  refine j_aload_n E dL_zone_2 rfl rfl ?_
  refine j_iload_n E dL_zone_3 rfl rfl ?_
  cases ho : xZoO a M p with
  | inl r =>
    obtain ⟨r1, M2⟩ := r
    obtain ⟨x, e⟩ : ∃ x, r1 = some (.int x) := oR_zone ho
    subst e
    rw [ho] at hk
    refine j_xV_ok1 (ci := 6) (n := 1) E hT.2.2.1 hk dL_zone_4 gL_zone_X6_zone rfl (by decide +kernel) ⟨rfl, rfl, by decide, by decide⟩ ⟨by decide, by decide⟩ hx1 hx2 rfl rfl rfl (Nat.le_of_ble_eq_true rfl) ?_
    refine j_i2l E dL_zone_7 ?_
    refine j_last E dL_zone_8 ?_
    refine j_goto E dL_zone_9 (tgt := 15) (by decide) ?_
    refine j_iconst E dL_zone_15 (v := 0) (by decide) ?_
    exact jH_iret E dL_zone_16 rfl rfl rfl (by decide) (by decide)
  | inr c =>
    rw [ho] at hk
    have e := oC_zone ho
    subst e
    refine j_xV_catch (ci := 6) (n := 1) E hT hk dL_zone_4 gL_zone_X6_zone rfl (by decide +kernel) ⟨rfl, rfl, by decide, by decide⟩ ⟨by decide, by decide⟩ hx1 hx2 rfl rfl rfl (Nat.le_of_ble_eq_true rfl) [] _ _ rfl (fun _ h => by cases h) (by decide) (by decide) (by decide +kernel) (by decide) (tgt := 12) rfl (fun q => ?_)
    refine j_astore_n E dL_zone_12 rfl (by decide) ?_
    refine j_iconst E dL_zone_13 (v := 1) (by decide) ?_
    exact jH_iret E dL_zone_14 (by decide) rfl rfl (by decide) (by decide)
theorem oR_output {p : Int32} {r : Option Value × pM} (h : xOuO a M p = .inl r) : ∃ v, r.1 = some (.int v) := by
  unfold xOuO at h
  (repeat' split at h) <;> first | (cases h; done) | (cases h; exact ⟨_, rfl⟩)
theorem oC_output {p : Int32} {c : String} (h : xOuO a M p = .inr c) : c = xNSE := by
  unfold xOuO at h
  (repeat' split at h) <;> first | (cases h; done) | (cases h; exact rfl)
theorem k_L_output {l : Launch} (hlt : l.stackTraces = false) {D : va_G} {cy : Nat → ClassId} {h : Nat} {o : Nat → Int64} {v : Nat → UInt64} {G : pG} {p : Int32} (hX : wX G a) : jKH l yL_output wsL_output ({ frames := 8, cells := 1, slots := 6, locals := 133 } : Room) D cy (lX cy h o v) G M [.ref (a 0), .int p, .ref (h + 69)] (some (.int (oK k1 (xOuO a M p)))) (lX cy h (lO (xOuO a M p) o) v) (oM (xOuO a M p) M) 1 6 := by
  refine jKH_of hlt (own := RL) (by decide) rfl rfl (Nat.le_of_ble_eq_true rfl) (fun C E hT hl hD hcy hG => ?_)
  subst hl; subst hD; subst hcy; subst hG
  have hx1 := hX.1.1
  have hx2 := hX.1.2.1
  have hk := k_X6_output (D := jD C) (cy := jcy C) (X := (lX (jcy C) h o v)) (M := M) (p := p) hlt hX
  refine j_aload_n E dL_output_0 rfl rfl ?_
  refine j_iconst E dL_output_1 (v := 0) (by decide) ?_
  refine j_aload_n E dL_output_2 rfl rfl ?_
  refine j_iload_n E dL_output_3 rfl rfl ?_
  cases ho : xOuO a M p with
  | inl r =>
    obtain ⟨r1, M2⟩ := r
    obtain ⟨x, e⟩ : ∃ x, r1 = some (.int x) := oR_output ho
    subst e
    rw [ho] at hk
    refine j_xV_ok1 (ci := 6) (n := 1) E hT.2.2.1 hk dL_output_4 gL_output_X6_output rfl (by decide +kernel) ⟨rfl, rfl, by decide, by decide⟩ ⟨by decide, by decide⟩ hx1 hx2 rfl rfl rfl (Nat.le_of_ble_eq_true rfl) ?_
    refine j_i2l E dL_output_7 ?_
    refine j_last E dL_output_8 ?_
    refine j_goto E dL_output_9 (tgt := 15) (by decide) ?_
    refine j_iconst E dL_output_15 (v := 0) (by decide) ?_
    exact jH_iret E dL_output_16 rfl rfl rfl (by decide) (by decide)
  | inr c =>
    rw [ho] at hk
    have e := oC_output ho
    subst e
    refine j_xV_catch (ci := 6) (n := 1) E hT hk dL_output_4 gL_output_X6_output rfl (by decide +kernel) ⟨rfl, rfl, by decide, by decide⟩ ⟨by decide, by decide⟩ hx1 hx2 rfl rfl rfl (Nat.le_of_ble_eq_true rfl) [] _ _ rfl (fun _ h => by cases h) (by decide) (by decide) (by decide +kernel) (by decide) (tgt := 12) rfl (fun q => ?_)
    refine j_astore_n E dL_output_12 rfl (by decide) ?_
    refine j_iconst E dL_output_13 (v := 1) (by decide) ?_
    exact jH_iret E dL_output_14 (by decide) rfl rfl (by decide) (by decide)
theorem oR_held {p : Int32} {r : Option Value × pM} (h : xHeO a M p = .inl r) : ∃ v, r.1 = some (.int v) := by
  unfold xHeO at h
  (repeat' split at h) <;> first | (cases h; done) | (cases h; exact ⟨_, rfl⟩)
theorem oC_held {p : Int32} {c : String} (h : xHeO a M p = .inr c) : c = xNSE := by
  unfold xHeO at h
  (repeat' split at h) <;> first | (cases h; done) | (cases h; exact rfl)
theorem k_L_held {l : Launch} (hlt : l.stackTraces = false) {D : va_G} {cy : Nat → ClassId} {h : Nat} {o : Nat → Int64} {v : Nat → UInt64} {G : pG} {p : Int32} (hX : wX G a) : jKH l yL_held wsL_held ({ frames := 8, cells := 1, slots := 6, locals := 132 } : Room) D cy (lX cy h o v) G M [.ref (a 0), .int p, .ref (h + 69)] (some (.int (oK k1 (xHeO a M p)))) (lX cy h (lO (xHeO a M p) o) v) (oM (xHeO a M p) M) 1 6 := by
  refine jKH_of hlt (own := RL) (by decide) rfl rfl (Nat.le_of_ble_eq_true rfl) (fun C E hT hl hD hcy hG => ?_)
  subst hl; subst hD; subst hcy; subst hG
  have hx1 := hX.1.1
  have hx2 := hX.1.2.1
  have hk := k_X6_held (D := jD C) (cy := jcy C) (X := (lX (jcy C) h o v)) (M := M) (p := p) hlt hX
  refine j_aload_n E dL_held_0 rfl rfl ?_
  refine j_iconst E dL_held_1 (v := 0) (by decide) ?_
  refine j_aload_n E dL_held_2 rfl rfl ?_
  refine j_iload_n E dL_held_3 rfl rfl ?_
  cases ho : xHeO a M p with
  | inl r =>
    obtain ⟨r1, M2⟩ := r
    obtain ⟨x, e⟩ : ∃ x, r1 = some (.int x) := oR_held ho
    subst e
    rw [ho] at hk
    refine j_xV_ok1 (ci := 6) (n := 1) E hT.2.2.1 hk dL_held_4 gL_held_X6_held rfl (by decide +kernel) ⟨rfl, rfl, by decide, by decide⟩ ⟨by decide, by decide⟩ hx1 hx2 rfl rfl rfl (Nat.le_of_ble_eq_true rfl) ?_
    refine j_i2l E dL_held_7 ?_
    refine j_last E dL_held_8 ?_
    refine j_goto E dL_held_9 (tgt := 15) (by decide) ?_
    refine j_iconst E dL_held_15 (v := 0) (by decide) ?_
    exact jH_iret E dL_held_16 rfl rfl rfl (by decide) (by decide)
  | inr c =>
    rw [ho] at hk
    have e := oC_held ho
    subst e
    refine j_xV_catch (ci := 6) (n := 1) E hT hk dL_held_4 gL_held_X6_held rfl (by decide +kernel) ⟨rfl, rfl, by decide, by decide⟩ ⟨by decide, by decide⟩ hx1 hx2 rfl rfl rfl (Nat.le_of_ble_eq_true rfl) [] _ _ rfl (fun _ h => by cases h) (by decide) (by decide) (by decide +kernel) (by decide) (tgt := 12) rfl (fun q => ?_)
    refine j_astore_n E dL_held_12 rfl (by decide) ?_
    refine j_iconst E dL_held_13 (v := 1) (by decide) ?_
    exact jH_iret E dL_held_14 (by decide) rfl rfl (by decide) (by decide)
theorem oR_log {p w : Int32} {r : Option Value × pM} (h : xLoO a M p w = .inl r) : ∃ v, r.1 = some (.int v) := by
  unfold xLoO at h
  (repeat' split at h) <;> first | (cases h; done) | (cases h; exact ⟨_, rfl⟩)
theorem oC_log {p w : Int32} {c : String} (h : xLoO a M p w = .inr c) : c = xIAE := by
  unfold xLoO at h
  (repeat' split at h) <;> first | (cases h; done) | (cases h; exact rfl)
theorem k_L_log {l : Launch} (hlt : l.stackTraces = false) {D : va_G} {cy : Nat → ClassId} {h : Nat} {o : Nat → Int64} {v : Nat → UInt64} {G : pG} {p w : Int32} (hX : wX G a) : jKH l yL_log wsL_log ({ frames := 8, cells := 2, slots := 12, locals := 132 } : Room) D cy (lX cy h o v) G M [.ref (a 0), .int p, .int w, .ref (h + 69)] (some (.int (oK k1 (xLoO a M p w)))) (lX cy h (lO (xLoO a M p w) o) v) (oM (xLoO a M p w) M) 2 12 := by
  refine jKH_of hlt (own := RL) (by decide) rfl rfl (Nat.le_of_ble_eq_true rfl) (fun C E hT hl hD hcy hG => ?_)
  subst hl; subst hD; subst hcy; subst hG
  have hx1 := hX.1.1
  have hx2 := hX.1.2.1
  have hk := k_X6_log (D := jD C) (cy := jcy C) (X := (lX (jcy C) h o v)) (M := M) (p := p) (w := w) hlt hX
  refine j_aload_n E dL_log_0 rfl rfl ?_
  refine j_iconst E dL_log_1 (v := 0) (by decide) ?_
  refine j_aload_n E dL_log_2 rfl rfl ?_
  refine j_iload_n E dL_log_3 rfl rfl ?_
  refine j_iload_n E dL_log_4 rfl rfl ?_
  cases ho : xLoO a M p w with
  | inl r =>
    obtain ⟨r1, M2⟩ := r
    obtain ⟨x, e⟩ : ∃ x, r1 = some (.int x) := oR_log ho
    subst e
    rw [ho] at hk
    refine j_xV_ok1 (ci := 6) (n := 2) E hT.2.2.1 hk dL_log_5 gL_log_X6_log rfl (by decide +kernel) ⟨rfl, rfl, by decide, by decide⟩ ⟨by decide, by decide⟩ hx1 hx2 rfl rfl rfl (Nat.le_of_ble_eq_true rfl) ?_
    refine j_i2l E dL_log_8 ?_
    refine j_last E dL_log_9 ?_
    refine j_goto E dL_log_10 (tgt := 17) (by decide) ?_
    refine j_iconst E dL_log_17 (v := 0) (by decide) ?_
    exact jH_iret E dL_log_18 rfl rfl rfl (by decide) (by decide)
  | inr c =>
    rw [ho] at hk
    have e := oC_log ho
    subst e
    refine j_xV_catch (ci := 6) (n := 2) E hT hk dL_log_5 gL_log_X6_log rfl (by decide +kernel) ⟨rfl, rfl, by decide, by decide⟩ ⟨by decide, by decide⟩ hx1 hx2 rfl rfl rfl (Nat.le_of_ble_eq_true rfl) [] _ _ rfl (fun _ h => by cases h) (by decide) (by decide) (by decide +kernel) (by decide) (tgt := 13) rfl (fun q => ?_)
    refine j_astore E dL_log_13 (by decide) ?_
    refine j_iconst E dL_log_15 (v := 1) (by decide) ?_
    exact jH_iret E dL_log_16 (by decide) rfl rfl (by decide) (by decide)
theorem oR_count {w : Int32} {r : Option Value × pM} (h : xCoO a M w = .inl r) : ∃ v, r.1 = some (.int v) := by
  unfold xCoO at h
  (repeat' split at h) <;> first | (cases h; done) | (cases h; exact ⟨_, rfl⟩)
theorem oC_count {w : Int32} {c : String} (h : xCoO a M w = .inr c) : c = xIAE := by
  unfold xCoO at h
  (repeat' split at h) <;> first | (cases h; done) | (cases h; exact rfl)
theorem k_L_count {l : Launch} (hlt : l.stackTraces = false) {D : va_G} {cy : Nat → ClassId} {h : Nat} {o : Nat → Int64} {v : Nat → UInt64} {G : pG} {w : Int32} (hX : wX G a) : jKH l yL_count wsL_count ({ frames := 7, cells := 1, slots := 6, locals := 111 } : Room) D cy (lX cy h o v) G M [.ref (a 0), .int w, .ref (h + 69)] (some (.int (oK k1 (xCoO a M w)))) (lX cy h (lO (xCoO a M w) o) v) (oM (xCoO a M w) M) 1 6 := by
  refine jKH_of hlt (own := RL) (by decide) rfl rfl (Nat.le_of_ble_eq_true rfl) (fun C E hT hl hD hcy hG => ?_)
  subst hl; subst hD; subst hcy; subst hG
  have hx1 := hX.1.1
  have hx2 := hX.1.2.1
  have hk := k_X6_count (D := jD C) (cy := jcy C) (X := (lX (jcy C) h o v)) (M := M) (w := w) hlt hX
  refine j_aload_n E dL_count_0 rfl rfl ?_
  refine j_iconst E dL_count_1 (v := 0) (by decide) ?_
  refine j_aload_n E dL_count_2 rfl rfl ?_
  refine j_iload_n E dL_count_3 rfl rfl ?_
  cases ho : xCoO a M w with
  | inl r =>
    obtain ⟨r1, M2⟩ := r
    obtain ⟨x, e⟩ : ∃ x, r1 = some (.int x) := oR_count ho
    subst e
    rw [ho] at hk
    refine j_xV_ok1 (ci := 6) (n := 1) E hT.2.2.1 hk dL_count_4 gL_count_X6_count rfl (by decide +kernel) ⟨rfl, rfl, by decide, by decide⟩ ⟨by decide, by decide⟩ hx1 hx2 rfl rfl rfl (Nat.le_of_ble_eq_true rfl) ?_
    refine j_i2l E dL_count_7 ?_
    refine j_last E dL_count_8 ?_
    refine j_goto E dL_count_9 (tgt := 15) (by decide) ?_
    refine j_iconst E dL_count_15 (v := 0) (by decide) ?_
    exact jH_iret E dL_count_16 rfl rfl rfl (by decide) (by decide)
  | inr c =>
    rw [ho] at hk
    have e := oC_count ho
    subst e
    refine j_xV_catch (ci := 6) (n := 1) E hT hk dL_count_4 gL_count_X6_count rfl (by decide +kernel) ⟨rfl, rfl, by decide, by decide⟩ ⟨by decide, by decide⟩ hx1 hx2 rfl rfl rfl (Nat.le_of_ble_eq_true rfl) [] _ _ rfl (fun _ h => by cases h) (by decide) (by decide) (by decide +kernel) (by decide) (tgt := 12) rfl (fun q => ?_)
    refine j_astore_n E dL_count_12 rfl (by decide) ?_
    refine j_iconst E dL_count_13 (v := 1) (by decide) ?_
    exact jH_iret E dL_count_14 (by decide) rfl rfl (by decide) (by decide)
end HELP
