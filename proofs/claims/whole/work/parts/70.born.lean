/-! BORN: rows that make cells. A new cell's address is known: the heap's size at the method's start, and one more for each cell made since. -/
def jS (C : jC) (G : pG) : jC := (C.1, (C.2.1, C.2.2.1, G, C.2.2.2.2))
def pZ (G : pG) (M : pM) (q : Nat) : Prop := M.1 q = (fun _ => 0) ∧ M.2 q = (fun _ => 0) ∧ G.2.2.2 q = (fun _ => none)
def pAdd (G : pG) (q : Nat) : pG := (G.1 ++ [q], G.2)
def pPut (G : pG) (a k v : Nat) : pG := (G.1, G.2.1, G.2.2.1, va_up G.2.2.2 a (va_up (G.2.2.2 a) k (some v)))
def pdf : List Nat → List Value
  | [] => []
  | t :: ts => (match t with | 0 => Value.int 0 | 1 => .float 0 | _ => .null) :: pdf ts
theorem pfl_z {G : pG} {M : pM} {q : Nat} (h : pZ G M q) : ∀ (ts : List Nat) (i : Nat), pfl M G.2.2.2 q ts i = pdf ts
  | [], _ => rfl
  | t :: ts, i => by
    simp only [pfl, pdf]
    rw [pfl_z h ts (i + 1)]
    congr 1
    unfold pval
    split <;> simp [h.1, h.2.1, h.2.2, va_rf]
theorem pW_add (cy : Nat → ClassId) (X : va_W) (G : pG) (M : pM) (q : Nat) : pW cy X G M ++ [(q, pcell cy G M q)] = pW cy X (pAdd G q) M := by
  show (X ++ va_pl G.1 (pcell cy G M)) ++ [(q, pcell cy G M q)] = X ++ va_pl (G.1 ++ [q]) (pcell cy G M)
  simp [va_pl]
theorem pW_setR {cy : Nat → ClassId} {X : va_W} {G G' : pG} {M : pM} {A : Nat → Prop} {a k : Nat} {e : va_E} (hD : va_D A (pW cy X G M)) (hL : a ∈ G.1) (hk : (pW cy X G M)[k]? = some (a, pcell cy G M a)) (h1 : G'.1 = G.1) (he : e = pcell cy G' M a) (ho : ∀ b, b ≠ a → pcell cy G M b = pcell cy G' M b) : (pW cy X G M).set k (a, e) = pW cy X G' M := by
  have h2 := va_pl_set (X := X) (f := pcell cy G M) (e := e) hD hL hk
  have h3 : va_pl G.1 (va_up (pcell cy G M) a e) = va_pl G.1 (pcell cy G' M) := by
    refine va_pl_congr fun b => ?_
    by_cases hb : b = a
    · subst hb
      simp [va_up, he]
    · simp only [va_up, if_neg hb]
      exact ho b hb
  show (X ++ va_pl G.1 (pcell cy G M)).set k (a, e) = X ++ va_pl G'.1 (pcell cy G' M)
  rw [h2, h3, h1]
theorem pfl_P {M : pM} {P P' : Nat → Nat → Option Nat} {a : Nat} (h : P a = P' a) : ∀ (ts : List Nat) (i : Nat), pfl M P a ts i = pfl M P' a ts i
  | [], _ => rfl
  | t :: ts, i => by
    simp only [pfl]
    rw [pfl_P h ts (i + 1)]
    congr 1
    unfold pval
    split <;> simp [h]
theorem pPut_ne (cy : Nat → ClassId) (G : pG) (M : pM) {a b : Nat} (k v : Nat) (h : b ≠ a) : pcell cy G M b = pcell cy (pPut G a k v) M b := by
  have h1 : (pPut G a k v).2.2.2 b = G.2.2.2 b := by simp [pPut, va_up, h]
  unfold pcell
  rw [h1, pfl_P h1.symm]
  rfl
theorem pfl_setR {M : pM} {P P' : Nat → Nat → Option Nat} {a : Nat} (ts : List Nat) {j : Nat} {v : Value} (ht : ts[j]? = some 2) (hv : v = va_rf (P' a j)) (h : ∀ i, i ≠ j → P a i = P' a i) : (pfl M P a ts 0).set j v = pfl M P' a ts 0 := by
  apply List.ext_getElem?
  intro k
  rw [List.getElem?_set]
  by_cases hk : j = k
  · subst hk
    have hj : j < ts.length := (List.getElem?_eq_some_iff.mp ht).1
    have h2 := pfl_get M P' a ts 0 j 2 ht
    rw [h2]
    simp [pfl_len, hj, hv, pval]
  · rw [if_neg hk]
    cases h3 : ts[k]? with
    | none =>
      have h4 : ts.length ≤ k := by simpa using h3
      rw [List.getElem?_eq_none (by rw [pfl_len]; exact h4), List.getElem?_eq_none (by rw [pfl_len]; exact h4)]
    | some t' =>
      rw [pfl_get M P a ts 0 k t' h3, pfl_get M P' a ts 0 k t' h3]
      have e1 : P a k = P' a k := h k (by omega)
      congr 1
      unfold pval
      split <;> simp [e1]
section Born
variable {C : jC} {cc : ByteArray} {nL : Nat} {Ts : List Cond} {own : String} {ret : Option FieldType} {rm : Room} {pc : Nat} {lv : List (Nat × Value)} {st : List Value} {X : va_W} {M : pM} {kc ks : Nat} {Q : State → Prop}
theorem j_sz (E : jE C cc nL Ts own ret rm) (hlast : kc = 0 ∨ (js C).heap.size + (kc - 1) ∈ (jG C).1) (k : ∀ (H : Heap) (locs : List Loc) (ls : Array Slot), H.size = (js C).heap.size + kc → va_P (jD C) vwCl (pW (jcy C) X (jG C) M) H → va_D (jA C) (pW (jcy C) X (jG C) M) → va_S (jA C) (jH C) H locs → lv_has ls nL lv →
    W (jp C) (jl C) (je C) (jR C) (js C) (jm C) (ja C) (jb C) (jme C) (jc C) H locs kc ks Q (F0 (jm C) pc ls st)) : jW C nL pc lv st X M kc ks Q := fun H locs ls hP hD hS hl T hT XS => by
  have h1 : H.size ≤ (js C).heap.size + kc := by
    have h2 : (T.setVm (js C).vm).heap.size ≤ (js C).heap.size + kc := XS.same.2.2.1
    rw [← hT]; exact h2
  have h3 : (js C).heap.size + kc ≤ H.size := by
    rcases hlast with h | h
    · have h4 := hS.1
      rw [E.2.2.2.2.2.2.2.2.2.1] at h4
      omega
    · have h4 := va_pl_lt (X := X) (f := pcell (jcy C) (jG C) M) hP h
      omega
  exact k H locs ls (Nat.le_antisymm h1 h3) hP hD hS hl T hT XS
theorem j_new (E : jE C cc nL Ts own ret rm) {ci N index : Nat} {Cn : String} {T : u_T} (hd : decode cc pc = .ok (.new index, 3)) (hcl : vwCl[ci]? = some (Cn, T, N)) (hin : ∀ w ∈ u_ws Cn T N, w ∈ Ts) (ty0 : Nat → FieldType) (hty : ∀ k, k < N → parseFieldDescriptor (T k).2.2.1 = some (ty0 k)) (hlk : Cond.classLink own index Cn ∈ Ts) (hins : Cond.instantiable Cn N ∈ Ts) (hini : Cond.initialized Cn ∈ Ts)
    (hfs : ∀ j, j < N → defaultValue (ty0 j) = vp_V (pdf (pty ci)) j) {q : Nat} (hq : (js C).heap.size + kc = q) (hlast : kc = 0 ∨ (js C).heap.size + (kc - 1) ∈ (jG C).1) (hK : (jG C).2.1 q = ci) (hz : pZ (jG C) M q) (hcells : kc + 1 ≤ rm.cells) (hslots : ks + N ≤ rm.slots)
    (kk : jW (jS C (pAdd (jG C) q)) nL (pc + 3) lv (.ref q :: st) X M (kc + 1) (ks + N) Q) : jW C nL pc lv st X M kc ks Q := by
  refine j_sz E hlast fun H locs ls hsz hP hD hS hl => ?_
  have hR := E.2.2.2.2.2.2.2.2.2.2
  have hHs := E.2.2.2.2.2.2.2.2.2.1
  have hc8 := (List.getElem?_eq_some_iff.mp hcl).1
  have hKn := E.2.2.2.2.2.1.1 ci _ hcl
  rw [hq] at hsz
  refine W.newcK E.1 E.2.1 E.2.2.2.1 (E.2.2.2.2.1 _ hlk) (E.2.2.2.2.1 _ hins) (E.2.2.2.2.1 _ hini) rfl hd (by rw [hR]; exact hcells) (by rw [hR]; exact hslots) hKn.2.1 hsz fun H1 kC hkC e1 z1 o1 => ?_
  have hk : ∀ (k : Nat) (x : Nat × va_E), (pW (jcy C) X (jG C) M)[k]? = some x → H1[x.1]? = H[x.1]? := fun k x hx => o1 x.1 (by rw [← hsz]; exact (hP k x hx).lt)
  have hA : jA C q := E.2.2.2.2.2.2.1 q (by rw [hHs]; omega)
  have hwd : pW (jcy C) X (jG C) M ++ [(q, .inr (ci, pdf (pty ci)))] = pW (jcy C) X (pAdd (jG C) q) M := by rw [← pW_add, pcell_o _ _ _ hK hc8, pfl_z hz]
  have hP1 : va_P (jD C) vwCl (pW (jcy C) X (jG C) M ++ [(q, .inr (ci, pdf (pty ci)))]) H1 := by
    refine (hP.kept hk).app (fun k x hx => ?_)
    have hz : k < 1 := (List.getElem?_eq_some_iff.mp hx).1
    rw [show k = 0 by omega] at hx
    cases hx
    exact ⟨_, hcl, (u_born ty0 E.2.2.2.2.1 hin hKn hkC e1 hty).to hfs⟩
  have hD1 : va_D (jA C) (pW (jcy C) X (jG C) M ++ [(q, .inr (ci, pdf (pty ci)))]) := hD.push hP hsz.symm hA
  rw [hwd] at hP1 hD1
  exact kk H1 locs ls hP1 hD1 ⟨Nat.le_trans hS.1 (by omega), fun x h1 h2 => (o1 x (by have := hS.1; have h9 : x < (jH C).size := h1; omega)).trans (hS.2.1 x h1 h2), hS.2.2⟩ hl
theorem j_newaC (E : jE C cc nL Ts own ret rm) {N : Nat} {n : Int32} (hd : decode cc pc = .ok (.newarray .char, 2)) (harr : Cond.arrayClass .char ∈ Ts) (hn : n = nI N) (hN31 : N < 1000) {q : Nat} (hq : (js C).heap.size + kc = q) (hlast : kc = 0 ∨ (js C).heap.size + (kc - 1) ∈ (jG C).1) (hK : (jG C).2.1 q = 8) (hlen : (jG C).2.2.1 q = N) (hz : pZ (jG C) M q) (hcells : kc + 1 ≤ rm.cells) (hslots : ks + N ≤ rm.slots)
    (kk : jW (jS C (pAdd (jG C) q)) nL (pc + 2) lv (.ref q :: st) X M (kc + 1) (ks + N) Q) : jW C nL pc lv (.int n :: st) X M kc ks Q := by
  refine j_sz E hlast fun H locs ls hsz hP hD hS hl => ?_
  have hR := E.2.2.2.2.2.2.2.2.2.2
  have hHs := E.2.2.2.2.2.2.2.2.2.1
  rw [hq] at hsz
  have hb : N * componentBytes .char ≤ 536870912 := Nat.le_trans (Nat.mul_le_mul_right _ (Nat.le_of_lt hN31)) (by decide)
  refine va_newaK (atype := .char) E.1 E.2.1 (E.2.2.2.2.1 _ harr) rfl hd rfl (by rw [hn]; exact nI_pos (by omega)) (by rw [hn]; exact nI_clamp (by omega)) hb (by rw [hR]; exact hcells) (by rw [hR]; exact hslots) hsz fun H1 cA e1 z1 o1 hAr hNm => ?_
  have hcA : cA = jcy C 0 := Option.some.inj (hNm.symm.trans (E.2.2.2.2.2.1.2 0 _ rfl).2)
  have hk : ∀ (k : Nat) (x : Nat × va_E), (pW (jcy C) X (jG C) M)[k]? = some x → H1[x.1]? = H[x.1]? := fun k x hx => o1 x.1 (by rw [← hsz]; exact (hP k x hx).lt)
  have hA : jA C q := E.2.2.2.2.2.2.1 q (by rw [hHs]; omega)
  have hwd : pW (jcy C) X (jG C) M ++ [(q, .inl (jcy C 0, N, .inl (M.1 q)))] = pW (jcy C) X (pAdd (jG C) q) M := by rw [← pW_add, pcell_C _ _ _ hK, hlen]
  have hP1 : va_P (jD C) vwCl (pW (jcy C) X (jG C) M ++ [(q, .inl (jcy C 0, N, .inl (M.1 q)))]) H1 := by
    refine (hP.kept hk).app (fun k x hx => ?_)
    have hz9 : k < 1 := (List.getElem?_eq_some_iff.mp hx).1
    rw [show k = 0 by omega] at hx
    cases hx
    show H1[q]? = some (vp_cell _ _)
    rw [e1, hcA, hz.1]
    rfl
  have hD1 : va_D (jA C) (pW (jcy C) X (jG C) M ++ [(q, .inl (jcy C 0, N, .inl (M.1 q)))]) := hD.push hP hsz.symm hA
  rw [hwd] at hP1 hD1
  exact kk H1 locs ls hP1 hD1 ⟨Nat.le_trans hS.1 (by omega), fun x h1 h2 => (o1 x (by have := hS.1; have h9 : x < (jH C).size := h1; omega)).trans (hS.2.1 x h1 h2), hS.2.2⟩ hl
theorem j_newaF (E : jE C cc nL Ts own ret rm) {N : Nat} {n : Int32} (hd : decode cc pc = .ok (.newarray .float, 2)) (harr : Cond.arrayClass .float ∈ Ts) (hn : n = nI N) (hN31 : N < 1000) {q : Nat} (hq : (js C).heap.size + kc = q) (hlast : kc = 0 ∨ (js C).heap.size + (kc - 1) ∈ (jG C).1) (hK : (jG C).2.1 q = 9) (hlen : (jG C).2.2.1 q = N) (hz : pZ (jG C) M q) (hcells : kc + 1 ≤ rm.cells) (hslots : ks + N ≤ rm.slots)
    (kk : jW (jS C (pAdd (jG C) q)) nL (pc + 2) lv (.ref q :: st) X M (kc + 1) (ks + N) Q) : jW C nL pc lv (.int n :: st) X M kc ks Q := by
  refine j_sz E hlast fun H locs ls hsz hP hD hS hl => ?_
  have hR := E.2.2.2.2.2.2.2.2.2.2
  have hHs := E.2.2.2.2.2.2.2.2.2.1
  rw [hq] at hsz
  have hb : N * componentBytes .float ≤ 536870912 := Nat.le_trans (Nat.mul_le_mul_right _ (Nat.le_of_lt hN31)) (by decide)
  refine va_newaK (atype := .float) E.1 E.2.1 (E.2.2.2.2.1 _ harr) rfl hd rfl (by rw [hn]; exact nI_pos (by omega)) (by rw [hn]; exact nI_clamp (by omega)) hb (by rw [hR]; exact hcells) (by rw [hR]; exact hslots) hsz fun H1 cA e1 z1 o1 hAr hNm => ?_
  have hcA : cA = jcy C 1 := Option.some.inj (hNm.symm.trans (E.2.2.2.2.2.1.2 1 _ rfl).2)
  have hk : ∀ (k : Nat) (x : Nat × va_E), (pW (jcy C) X (jG C) M)[k]? = some x → H1[x.1]? = H[x.1]? := fun k x hx => o1 x.1 (by rw [← hsz]; exact (hP k x hx).lt)
  have hA : jA C q := E.2.2.2.2.2.2.1 q (by rw [hHs]; omega)
  have hwd : pW (jcy C) X (jG C) M ++ [(q, .inl (jcy C 1, N, .inr (.inr (.inl (M.2 q)))))] = pW (jcy C) X (pAdd (jG C) q) M := by rw [← pW_add, pcell_F _ _ _ hK, hlen]
  have hP1 : va_P (jD C) vwCl (pW (jcy C) X (jG C) M ++ [(q, .inl (jcy C 1, N, .inr (.inr (.inl (M.2 q)))))]) H1 := by
    refine (hP.kept hk).app (fun k x hx => ?_)
    have hz9 : k < 1 := (List.getElem?_eq_some_iff.mp hx).1
    rw [show k = 0 by omega] at hx
    cases hx
    show H1[q]? = some (vp_cell _ _)
    rw [e1, hcA, hz.2.1]
    rfl
  have hD1 : va_D (jA C) (pW (jcy C) X (jG C) M ++ [(q, .inl (jcy C 1, N, .inr (.inr (.inl (M.2 q)))))]) := hD.push hP hsz.symm hA
  rw [hwd] at hP1 hD1
  exact kk H1 locs ls hP1 hD1 ⟨Nat.le_trans hS.1 (by omega), fun x h1 h2 => (o1 x (by have := hS.1; have h9 : x < (jH C).size := h1; omega)).trans (hS.2.1 x h1 h2), hS.2.2⟩ hl
theorem j_newaI (E : jE C cc nL Ts own ret rm) {N : Nat} {n : Int32} (hd : decode cc pc = .ok (.newarray .int, 2)) (harr : Cond.arrayClass .int ∈ Ts) (hn : n = nI N) (hN31 : N < 1000) {q : Nat} (hq : (js C).heap.size + kc = q) (hlast : kc = 0 ∨ (js C).heap.size + (kc - 1) ∈ (jG C).1) (hK : (jG C).2.1 q = 10) (hlen : (jG C).2.2.1 q = N) (hz : pZ (jG C) M q) (hcells : kc + 1 ≤ rm.cells) (hslots : ks + N ≤ rm.slots)
    (kk : jW (jS C (pAdd (jG C) q)) nL (pc + 2) lv (.ref q :: st) X M (kc + 1) (ks + N) Q) : jW C nL pc lv (.int n :: st) X M kc ks Q := by
  refine j_sz E hlast fun H locs ls hsz hP hD hS hl => ?_
  have hR := E.2.2.2.2.2.2.2.2.2.2
  have hHs := E.2.2.2.2.2.2.2.2.2.1
  rw [hq] at hsz
  have hb : N * componentBytes .int ≤ 536870912 := Nat.le_trans (Nat.mul_le_mul_right _ (Nat.le_of_lt hN31)) (by decide)
  refine va_newaK (atype := .int) E.1 E.2.1 (E.2.2.2.2.1 _ harr) rfl hd rfl (by rw [hn]; exact nI_pos (by omega)) (by rw [hn]; exact nI_clamp (by omega)) hb (by rw [hR]; exact hcells) (by rw [hR]; exact hslots) hsz fun H1 cA e1 z1 o1 hAr hNm => ?_
  have hcA : cA = jcy C 2 := Option.some.inj (hNm.symm.trans (E.2.2.2.2.2.1.2 2 _ rfl).2)
  have hk : ∀ (k : Nat) (x : Nat × va_E), (pW (jcy C) X (jG C) M)[k]? = some x → H1[x.1]? = H[x.1]? := fun k x hx => o1 x.1 (by rw [← hsz]; exact (hP k x hx).lt)
  have hA : jA C q := E.2.2.2.2.2.2.1 q (by rw [hHs]; omega)
  have hwd : pW (jcy C) X (jG C) M ++ [(q, .inl (jcy C 2, N, .inl (M.1 q)))] = pW (jcy C) X (pAdd (jG C) q) M := by rw [← pW_add, pcell_I _ _ _ hK, hlen]
  have hP1 : va_P (jD C) vwCl (pW (jcy C) X (jG C) M ++ [(q, .inl (jcy C 2, N, .inl (M.1 q)))]) H1 := by
    refine (hP.kept hk).app (fun k x hx => ?_)
    have hz9 : k < 1 := (List.getElem?_eq_some_iff.mp hx).1
    rw [show k = 0 by omega] at hx
    cases hx
    show H1[q]? = some (vp_cell _ _)
    rw [e1, hcA, hz.1]
    rfl
  have hD1 : va_D (jA C) (pW (jcy C) X (jG C) M ++ [(q, .inl (jcy C 2, N, .inl (M.1 q)))]) := hD.push hP hsz.symm hA
  rw [hwd] at hP1 hD1
  exact kk H1 locs ls hP1 hD1 ⟨Nat.le_trans hS.1 (by omega), fun x h1 h2 => (o1 x (by have := hS.1; have h9 : x < (jH C).size := h1; omega)).trans (hS.2.1 x h1 h2), hS.2.2⟩ hl
theorem j_newaZ (E : jE C cc nL Ts own ret rm) {N : Nat} {n : Int32} (hd : decode cc pc = .ok (.newarray .boolean, 2)) (harr : Cond.arrayClass .boolean ∈ Ts) (hn : n = nI N) (hN31 : N < 1000) {q : Nat} (hq : (js C).heap.size + kc = q) (hlast : kc = 0 ∨ (js C).heap.size + (kc - 1) ∈ (jG C).1) (hK : (jG C).2.1 q = 11) (hlen : (jG C).2.2.1 q = N) (hz : pZ (jG C) M q) (hcells : kc + 1 ≤ rm.cells) (hslots : ks + N ≤ rm.slots)
    (kk : jW (jS C (pAdd (jG C) q)) nL (pc + 2) lv (.ref q :: st) X M (kc + 1) (ks + N) Q) : jW C nL pc lv (.int n :: st) X M kc ks Q := by
  refine j_sz E hlast fun H locs ls hsz hP hD hS hl => ?_
  have hR := E.2.2.2.2.2.2.2.2.2.2
  have hHs := E.2.2.2.2.2.2.2.2.2.1
  rw [hq] at hsz
  have hb : N * componentBytes .boolean ≤ 536870912 := Nat.le_trans (Nat.mul_le_mul_right _ (Nat.le_of_lt hN31)) (by decide)
  refine va_newaK (atype := .boolean) E.1 E.2.1 (E.2.2.2.2.1 _ harr) rfl hd rfl (by rw [hn]; exact nI_pos (by omega)) (by rw [hn]; exact nI_clamp (by omega)) hb (by rw [hR]; exact hcells) (by rw [hR]; exact hslots) hsz fun H1 cA e1 z1 o1 hAr hNm => ?_
  have hcA : cA = jcy C 3 := Option.some.inj (hNm.symm.trans (E.2.2.2.2.2.1.2 3 _ rfl).2)
  have hk : ∀ (k : Nat) (x : Nat × va_E), (pW (jcy C) X (jG C) M)[k]? = some x → H1[x.1]? = H[x.1]? := fun k x hx => o1 x.1 (by rw [← hsz]; exact (hP k x hx).lt)
  have hA : jA C q := E.2.2.2.2.2.2.1 q (by rw [hHs]; omega)
  have hwd : pW (jcy C) X (jG C) M ++ [(q, .inl (jcy C 3, N, .inl (M.1 q)))] = pW (jcy C) X (pAdd (jG C) q) M := by rw [← pW_add, pcell_Z _ _ _ hK, hlen]
  have hP1 : va_P (jD C) vwCl (pW (jcy C) X (jG C) M ++ [(q, .inl (jcy C 3, N, .inl (M.1 q)))]) H1 := by
    refine (hP.kept hk).app (fun k x hx => ?_)
    have hz9 : k < 1 := (List.getElem?_eq_some_iff.mp hx).1
    rw [show k = 0 by omega] at hx
    cases hx
    show H1[q]? = some (vp_cell _ _)
    rw [e1, hcA, hz.1]
    rfl
  have hD1 : va_D (jA C) (pW (jcy C) X (jG C) M ++ [(q, .inl (jcy C 3, N, .inl (M.1 q)))]) := hD.push hP hsz.symm hA
  rw [hwd] at hP1 hD1
  exact kk H1 locs ls hP1 hD1 ⟨Nat.le_trans hS.1 (by omega), fun x h1 h2 => (o1 x (by have := hS.1; have h9 : x < (jH C).size := h1; omega)).trans (hS.2.1 x h1 h2), hS.2.2⟩ hl
theorem j_anewP (E : jE C cc nL Ts own ret rm) (hao : va_AO RX2 (js C)) {N index : Nat} {n : Int32} (hd : decode cc pc = .ok (.anewarray index, 3)) (hlk : Cond.classLink own index RX2 ∈ Ts) (hn : n = nI N) (hN31 : N < 1000) {q : Nat} (hq : (js C).heap.size + kc = q) (hlast : kc = 0 ∨ (js C).heap.size + (kc - 1) ∈ (jG C).1) (hK : (jG C).2.1 q = 12) (hlen : (jG C).2.2.1 q = N) (hz : pZ (jG C) M q) (hcells : kc + 1 ≤ rm.cells) (hslots : ks + N ≤ rm.slots)
    (kk : jW (jS C (pAdd (jG C) q)) nL (pc + 3) lv (.ref q :: st) X M (kc + 1) (ks + N) Q) : jW C nL pc lv (.int n :: st) X M kc ks Q := by
  refine j_sz E hlast fun H locs ls hsz hP hD hS hl => ?_
  have hR := E.2.2.2.2.2.2.2.2.2.2
  have hHs := E.2.2.2.2.2.2.2.2.2.1
  rw [hq] at hsz
  have hcl9 : n.toNatClampNeg = N := by rw [hn]; exact nI_clamp (by omega)
  refine W.anew E.1 E.2.1 E.2.2.2.1 (E.2.2.2.2.1 _ hlk) (va_AO.use hao) rfl hd rfl (by rw [hn]; exact nI_pos (by omega)) (by rw [hcl9]; omega) (by rw [hR]; exact hcells) (by rw [hR, hcl9]; exact hslots) fun cA kA comp f1 f2 f3 f4 => ?_
  rw [hcl9]
  generalize hH1 : H.push ({ cls := cA, slots := Array.replicate N .null, vm := .none } : Cell) = H1
  have z1 : H1.size = H.size + 1 := by rw [← hH1, Array.size_push]
  have e1 : H1[q]? = some (arrV cA N (fun _ => .null)) := by rw [← hsz, ← hH1, Array.getElem?_push_size, ← arrV_new]
  have o1 : ∀ z : Nat, z < H.size → H1[z]? = H[z]? := fun z hz => by rw [← hH1, Array.getElem?_push, if_neg (Nat.ne_of_lt hz)]
  obtain ⟨kA2, comp2, -, -, -, hf⟩ := (E.2.2.2.2.2.1.2 4 _ rfl).2
  have hcA : cA = jcy C 4 := Option.some.inj (f1.symm.trans hf)
  have hk : ∀ (k : Nat) (x : Nat × va_E), (pW (jcy C) X (jG C) M)[k]? = some x → H1[x.1]? = H[x.1]? := fun k x hx => o1 x.1 ((hP k x hx).lt)
  have hA : jA C q := E.2.2.2.2.2.2.1 q (by rw [hHs]; omega)
  have hwd : pW (jcy C) X (jG C) M ++ [(q, .inl (jcy C 4, N, .inr (.inr (.inr (.inr ((jG C).2.2.2 q))))))] = pW (jcy C) X (pAdd (jG C) q) M := by rw [← pW_add, pcell_P _ _ _ hK (by decide), hlen]
  have hP1 : va_P (jD C) vwCl (pW (jcy C) X (jG C) M ++ [(q, .inl (jcy C 4, N, .inr (.inr (.inr (.inr ((jG C).2.2.2 q))))))]) H1 := by
    refine (hP.kept hk).app (fun k x hx => ?_)
    have hz9 : k < 1 := (List.getElem?_eq_some_iff.mp hx).1
    rw [show k = 0 by omega] at hx
    cases hx
    show H1[q]? = some (vp_cell _ _)
    rw [e1, hcA, hz.2.2]
    rfl
  have hD1 : va_D (jA C) (pW (jcy C) X (jG C) M ++ [(q, .inl (jcy C 4, N, .inr (.inr (.inr (.inr ((jG C).2.2.2 q))))))]) := hD.push hP hsz.symm hA
  rw [hwd] at hP1 hD1
  rw [hsz]
  exact kk H1 locs ls hP1 hD1 ⟨Nat.le_trans hS.1 (by omega), fun x h1 h2 => (o1 x (by have := hS.1; have h9 : x < (jH C).size := h1; omega)).trans (hS.2.1 x h1 h2), hS.2.2⟩ hl
theorem j_anewR (E : jE C cc nL Ts own ret rm) (hao : va_AO RX4 (js C)) {N index : Nat} {n : Int32} (hd : decode cc pc = .ok (.anewarray index, 3)) (hlk : Cond.classLink own index RX4 ∈ Ts) (hn : n = nI N) (hN31 : N < 1000) {q : Nat} (hq : (js C).heap.size + kc = q) (hlast : kc = 0 ∨ (js C).heap.size + (kc - 1) ∈ (jG C).1) (hK : (jG C).2.1 q = 13) (hlen : (jG C).2.2.1 q = N) (hz : pZ (jG C) M q) (hcells : kc + 1 ≤ rm.cells) (hslots : ks + N ≤ rm.slots)
    (kk : jW (jS C (pAdd (jG C) q)) nL (pc + 3) lv (.ref q :: st) X M (kc + 1) (ks + N) Q) : jW C nL pc lv (.int n :: st) X M kc ks Q := by
  refine j_sz E hlast fun H locs ls hsz hP hD hS hl => ?_
  have hR := E.2.2.2.2.2.2.2.2.2.2
  have hHs := E.2.2.2.2.2.2.2.2.2.1
  rw [hq] at hsz
  have hcl9 : n.toNatClampNeg = N := by rw [hn]; exact nI_clamp (by omega)
  refine W.anew E.1 E.2.1 E.2.2.2.1 (E.2.2.2.2.1 _ hlk) (va_AO.use hao) rfl hd rfl (by rw [hn]; exact nI_pos (by omega)) (by rw [hcl9]; omega) (by rw [hR]; exact hcells) (by rw [hR, hcl9]; exact hslots) fun cA kA comp f1 f2 f3 f4 => ?_
  rw [hcl9]
  generalize hH1 : H.push ({ cls := cA, slots := Array.replicate N .null, vm := .none } : Cell) = H1
  have z1 : H1.size = H.size + 1 := by rw [← hH1, Array.size_push]
  have e1 : H1[q]? = some (arrV cA N (fun _ => .null)) := by rw [← hsz, ← hH1, Array.getElem?_push_size, ← arrV_new]
  have o1 : ∀ z : Nat, z < H.size → H1[z]? = H[z]? := fun z hz => by rw [← hH1, Array.getElem?_push, if_neg (Nat.ne_of_lt hz)]
  obtain ⟨kA2, comp2, -, -, -, hf⟩ := (E.2.2.2.2.2.1.2 5 _ rfl).2
  have hcA : cA = jcy C 5 := Option.some.inj (f1.symm.trans hf)
  have hk : ∀ (k : Nat) (x : Nat × va_E), (pW (jcy C) X (jG C) M)[k]? = some x → H1[x.1]? = H[x.1]? := fun k x hx => o1 x.1 ((hP k x hx).lt)
  have hA : jA C q := E.2.2.2.2.2.2.1 q (by rw [hHs]; omega)
  have hwd : pW (jcy C) X (jG C) M ++ [(q, .inl (jcy C 5, N, .inr (.inr (.inr (.inr ((jG C).2.2.2 q))))))] = pW (jcy C) X (pAdd (jG C) q) M := by rw [← pW_add, pcell_P _ _ _ hK (by decide), hlen]
  have hP1 : va_P (jD C) vwCl (pW (jcy C) X (jG C) M ++ [(q, .inl (jcy C 5, N, .inr (.inr (.inr (.inr ((jG C).2.2.2 q))))))]) H1 := by
    refine (hP.kept hk).app (fun k x hx => ?_)
    have hz9 : k < 1 := (List.getElem?_eq_some_iff.mp hx).1
    rw [show k = 0 by omega] at hx
    cases hx
    show H1[q]? = some (vp_cell _ _)
    rw [e1, hcA, hz.2.2]
    rfl
  have hD1 : va_D (jA C) (pW (jcy C) X (jG C) M ++ [(q, .inl (jcy C 5, N, .inr (.inr (.inr (.inr ((jG C).2.2.2 q))))))]) := hD.push hP hsz.symm hA
  rw [hwd] at hP1 hD1
  rw [hsz]
  exact kk H1 locs ls hP1 hD1 ⟨Nat.le_trans hS.1 (by omega), fun x h1 h2 => (o1 x (by have := hS.1; have h9 : x < (jH C).size := h1; omega)).trans (hS.2.1 x h1 h2), hS.2.2⟩ hl
theorem j_anewS (E : jE C cc nL Ts own ret rm) (hao : va_AO RX5 (js C)) {N index : Nat} {n : Int32} (hd : decode cc pc = .ok (.anewarray index, 3)) (hlk : Cond.classLink own index RX5 ∈ Ts) (hn : n = nI N) (hN31 : N < 1000) {q : Nat} (hq : (js C).heap.size + kc = q) (hlast : kc = 0 ∨ (js C).heap.size + (kc - 1) ∈ (jG C).1) (hK : (jG C).2.1 q = 14) (hlen : (jG C).2.2.1 q = N) (hz : pZ (jG C) M q) (hcells : kc + 1 ≤ rm.cells) (hslots : ks + N ≤ rm.slots)
    (kk : jW (jS C (pAdd (jG C) q)) nL (pc + 3) lv (.ref q :: st) X M (kc + 1) (ks + N) Q) : jW C nL pc lv (.int n :: st) X M kc ks Q := by
  refine j_sz E hlast fun H locs ls hsz hP hD hS hl => ?_
  have hR := E.2.2.2.2.2.2.2.2.2.2
  have hHs := E.2.2.2.2.2.2.2.2.2.1
  rw [hq] at hsz
  have hcl9 : n.toNatClampNeg = N := by rw [hn]; exact nI_clamp (by omega)
  refine W.anew E.1 E.2.1 E.2.2.2.1 (E.2.2.2.2.1 _ hlk) (va_AO.use hao) rfl hd rfl (by rw [hn]; exact nI_pos (by omega)) (by rw [hcl9]; omega) (by rw [hR]; exact hcells) (by rw [hR, hcl9]; exact hslots) fun cA kA comp f1 f2 f3 f4 => ?_
  rw [hcl9]
  generalize hH1 : H.push ({ cls := cA, slots := Array.replicate N .null, vm := .none } : Cell) = H1
  have z1 : H1.size = H.size + 1 := by rw [← hH1, Array.size_push]
  have e1 : H1[q]? = some (arrV cA N (fun _ => .null)) := by rw [← hsz, ← hH1, Array.getElem?_push_size, ← arrV_new]
  have o1 : ∀ z : Nat, z < H.size → H1[z]? = H[z]? := fun z hz => by rw [← hH1, Array.getElem?_push, if_neg (Nat.ne_of_lt hz)]
  obtain ⟨kA2, comp2, -, -, -, hf⟩ := (E.2.2.2.2.2.1.2 6 _ rfl).2
  have hcA : cA = jcy C 6 := Option.some.inj (f1.symm.trans hf)
  have hk : ∀ (k : Nat) (x : Nat × va_E), (pW (jcy C) X (jG C) M)[k]? = some x → H1[x.1]? = H[x.1]? := fun k x hx => o1 x.1 ((hP k x hx).lt)
  have hA : jA C q := E.2.2.2.2.2.2.1 q (by rw [hHs]; omega)
  have hwd : pW (jcy C) X (jG C) M ++ [(q, .inl (jcy C 6, N, .inr (.inr (.inr (.inr ((jG C).2.2.2 q))))))] = pW (jcy C) X (pAdd (jG C) q) M := by rw [← pW_add, pcell_P _ _ _ hK (by decide), hlen]
  have hP1 : va_P (jD C) vwCl (pW (jcy C) X (jG C) M ++ [(q, .inl (jcy C 6, N, .inr (.inr (.inr (.inr ((jG C).2.2.2 q))))))]) H1 := by
    refine (hP.kept hk).app (fun k x hx => ?_)
    have hz9 : k < 1 := (List.getElem?_eq_some_iff.mp hx).1
    rw [show k = 0 by omega] at hx
    cases hx
    show H1[q]? = some (vp_cell _ _)
    rw [e1, hcA, hz.2.2]
    rfl
  have hD1 : va_D (jA C) (pW (jcy C) X (jG C) M ++ [(q, .inl (jcy C 6, N, .inr (.inr (.inr (.inr ((jG C).2.2.2 q))))))]) := hD.push hP hsz.symm hA
  rw [hwd] at hP1 hD1
  rw [hsz]
  exact kk H1 locs ls hP1 hD1 ⟨Nat.le_trans hS.1 (by omega), fun x h1 h2 => (o1 x (by have := hS.1; have h9 : x < (jH C).size := h1; omega)).trans (hS.2.1 x h1 h2), hS.2.2⟩ hl
theorem j_putR (E : jE C cc nL Ts own ret rm) (hinit : (jme C).name = "<init>") {a ci k N index v : Nat} {Cn : String} {T : u_T} {ty : FieldType} (hd : decode cc pc = .ok (.putfield index, 3)) (hL : a ∈ (jG C).1) (hK : (jG C).2.1 a = ci) (hcl : vwCl[ci]? = some (Cn, T, N)) (hk : k < N) (hin : ∀ w ∈ u_ws Cn T N, w ∈ Ts) (hlk : Cond.fieldLink own index (T k).1 (T k).2.1 (T k).2.2.1 ∈ Ts) (ht : (pty ci)[k]? = some 2) (ty0 : Nat → FieldType) (hty : ∀ k, k < N → parseFieldDescriptor (T k).2.2.1 = some (ty0 k)) (hnm : ∀ a, a < N → ∀ b, b < N → a ≠ b → (T a).2.1 ≠ (T b).2.1) (hfin : (T k).2.2.2 = true) (hdecl : (T k).1 = own) (hty1 : ty0 k = ty) (hn : narrow ty (.ref v) = .ref v) (hfit : fits ty (.ref v) = true)
    (kk : jW (jS C (pPut (jG C) a k v)) nL (pc + 3) lv st X M kc ks Q) : jW C nL pc lv (.ref v :: .ref a :: st) X M kc ks Q := fun H locs ls hP hD hS hl => by
  obtain ⟨q, hq⟩ := pW_get (jcy C) X (jG C) M hL
  have hc8 : ci < 8 := (List.getElem?_eq_some_iff.mp hcl).1
  have hq2 := hq
  rw [pcell_o (jcy C) (jG C) M hK hc8] at hq2
  have hset : (pW (jcy C) X (jG C) M).set q (a, .inr (ci, (pfl M (jG C).2.2.2 a (pty ci) 0).set k (.ref v))) = pW (jcy C) X (pPut (jG C) a k v) M := by
    refine pW_setR hD hL hq rfl ?_ (fun b hb => pPut_ne _ _ _ _ _ hb)
    rw [pcell_o (jcy C) (pPut (jG C) a k v) M hK hc8]
    rw [pfl_setR (P' := (pPut (jG C) a k v).2.2.2) (pty ci) ht (by simp [pPut, va_up, va_rf]) (fun i hi => by simp [pPut, va_up, hi])]
  have hkl : k < (pfl M (jG C).2.2.2 a (pty ci) 0).length := by
    rw [pfl_len]; exact (List.getElem?_eq_some_iff.mp ht).1
  refine va_putF (D := jD C) (ci := ci) (C := Cn) (T := T) (N := N) (ty := ty) E.1 E.2.1 E.2.2.2.2.1 hin ty0 hty hnm E.2.2.2.1 E.2.2.2.2.2.1 hP hD hS q hq2 hcl k hk (E.2.2.2.2.1 _ hlk) (fun _ h => h) hfin hinit hdecl (by rw [hty k hk, hty1]) hn hfit hkl hd (fun H1 locs1 hP1 hD1 hS1 => ?_)
  rw [hset] at hP1 hD1
  exact kk H1 locs1 ls hP1 hD1 hS1 hl
theorem j_aastR (E : jE C cc nL Ts own ret rm) {a b ci n kd j : Nat} {r : vw_C} {i : Int32} (hd : decode cc pc = .ok (.aastore, 1)) (hL : a ∈ (jG C).1) (hlen : (jG C).2.2.1 a = n) (hi : i = nI j) (hj : j < n) (hn : n < 1000) (hK : (jG C).2.1 a = kd) (hkd : 12 ≤ kd) (ht : (ptys (jcy C))[kd - 8]? = some (jcy C (kd - 8), .object r.1)) (hLb : b ∈ (jG C).1) (hKb : (jG C).2.1 b = ci) (hcl : vwCl[ci]? = some r)
    (kk : jW (jS C (pPut (jG C) a j b)) nL (pc + 1) lv st X M kc ks Q) : jW C nL pc lv (.ref b :: .int i :: .ref a :: st) X M kc ks Q := fun H locs ls hP hD hS hl => by
  obtain ⟨q, hq⟩ := pW_get (jcy C) X (jG C) M hL
  obtain ⟨qb, hqb⟩ := pW_get (jcy C) X (jG C) M hLb
  have hc8 : ci < 8 := (List.getElem?_eq_some_iff.mp hcl).1
  have hq2 := hq
  rw [pcell_P (jcy C) (jG C) M hK hkd, hlen] at hq2
  rw [pcell_o (jcy C) (jG C) M hKb hc8] at hqb
  have hclm : i.toNatClampNeg = j := by rw [hi]; exact nI_clamp (by omega)
  have hset : (pW (jcy C) X (jG C) M).set q (a, .inl (jcy C (kd - 8), n, .inr (.inr (.inr (.inr (va_up ((jG C).2.2.2 a) i.toNatClampNeg (some b))))))) = pW (jcy C) X (pPut (jG C) a j b) M := by
    refine pW_setR hD hL hq rfl ?_ (fun z hz => pPut_ne _ _ _ _ _ hz)
    rw [pcell_P (jcy C) (pPut (jG C) a j b) M hK hkd, hclm]
    have h1 : (pPut (jG C) a j b).2.2.2 a = va_up ((jG C).2.2.2 a) j (some b) := by simp [pPut, va_up]
    rw [h1]
    have h2 : (pPut (jG C) a j b).2.2.1 a = n := hlen
    rw [h2]
  refine va_astq (D := jD C) E.1 E.2.1 E.2.2.2.2.2.1 hP hD hS q (kd - 8) qb ci hq2 ht hqb hcl (pk_in j n hj hi (by omega)) hd (fun H1 locs1 hP1 hD1 hS1 => ?_)
  rw [hset] at hP1 hD1
  exact kk H1 locs1 ls hP1 hD1 hS1 hl
theorem j_objInit (E : jE C cc nL Ts own ret rm) {a index : Nat} (hd : decode cc pc = .ok (.invokespecial index, 3)) (h1 : Cond.methodLink own index objectInit ∈ Ts) (h2 : Cond.instanceMethod objectInit ∈ Ts) (h3 : Cond.code objectInit ⟨#[0xb1]⟩ 1 none ∈ Ts) (hf : 1 ≤ rm.frames) (hlo : (st.map fun v => v.category).sum + 12 ≤ rm.locals)
    (kk : jW C nL (pc + 3) lv st X M kc ks Q) : jW C nL pc lv (.ref a :: st) X M kc ks Q := fun H locs ls hP hD hS hl => by
  have hR := E.2.2.2.2.2.2.2.2.2.2
  refine W.objInit E.1 E.2.1 E.2.2.2.1 (E.2.2.2.2.1 _ h1) (E.2.2.2.2.1 _ h2) (E.2.2.2.2.1 _ h3) rfl (by rw [E.2.2.1]; exact hl.1) rfl hd (by rw [hR]; exact hf) (by rw [hR]; show 2 * (F0 (jm C) pc ls (.ref a :: st)).monitorRoom + _ + 12 ≤ _; simp only [JFrame.monitorRoom]; simpa using hlo) ?_
  exact kk H locs ls hP hD hS hl
end Born
def jPreN (D : va_G) (cy : Nat → ClassId) (X : va_W) (G : pG) (M : pM) (sz : Nat) (U : State) : Prop := jPre D cy X G M sz U ∧ va_AO RX2 U ∧ va_AO RX4 U ∧ va_AO RX5 U
theorem jPreN_blind {D : va_G} {cy : Nat → ClassId} {X : va_W} {G : pG} {M : pM} {sz : Nat} {av : List Value} : FrameBlind (va_Pc av (jPreN D cy X G M sz)) := fun a U g mk q => by
  obtain ⟨q0, ⟨q1, qP, qK, qD⟩, h1, h2, h3⟩ := q
  exact ⟨q0, ⟨q1, qP, va_K.moved (u := U) (U := U.calling g mk a) (Vm.Alike.refl U.vm) qK, qD⟩, va_AO.moved (u := U) (U := U.calling g mk a) (Vm.Alike.refl U.vm) h1, va_AO.moved (u := U) (U := U.calling g mk a) (Vm.Alike.refl U.vm) h2, va_AO.moved (u := U) (U := U.calling g mk a) (Vm.Alike.refl U.vm) h3⟩
/-- a constructor, called where the heap has sz cells: it makes mc cells -/
def jKN (l : Launch) (y : MethodName) (ws : List Cond) (rm : Room) (D : va_G) (cy : Nat → ClassId) (X : va_W) (G : pG) (M : pM) (av : List Value) (G2 : pG) (M2 : pM) (mc ms sz : Nat) : Prop :=
  Met l y ws rm (va_Pc av (jPreN D cy X G M sz)) (jQ D cy X G2 M2 (va_A (pW cy X G M) sz) none) mc ms (va_A (pW cy X G M) sz)
def jAO (C : jC) : Prop := va_AO RX2 (js C) ∧ va_AO RX4 (js C) ∧ va_AO RX5 (js C)
theorem jKN_of {l : Launch} {y : MethodName} {ws ws' : List Cond} {rm : Room} {D : va_G} {cy : Nat → ClassId} {X : va_W} {G : pG} {M : pM} {av : List Value} {G2 : pG} {M2 : pM} {mc ms sz : Nat} {cc : ByteArray} {maxL : Nat} {ret : Option FieldType} {own : String}
    (hy : plainName y.cls = true) (ho : y.cls = own) (hnm : y.name = "<init>") (hw : ws = Cond.code y cc maxL ret :: ws') (hav : (lg_sl av).length ≤ maxL)
    (body : ∀ C : jC, jE C cc maxL ws own ret rm → jAO C → (jme C).name = "<init>" → (js C).heap.size = sz → jl C = l → jD C = D → jcy C = cy → jG C = G → jW C maxL 0 (lv_args 0 av) [] X M 0 0 (jZ (jS C G2) X M2 none mc ms)) : jKN l y ws rm D cy X G M av G2 M2 mc ms sz := by
  refine Met.ofW (cc := cc) (maxL := maxL) (ret := ret) hy hw ?_
  intro p e s m args below meth c s₁ B hml hv
  obtain ⟨rfl, ⟨hsz, hP, hK, hD0⟩, hao⟩ := hv
  have hts := atoms_spec (ws := ws) B.pre
  have hown : s.vm.findClass own = some m.cls := by rw [← ho]; exact findClass_of_methodNamed B.named
  have hname : meth.name = "<init>" := by rw [← hnm]; exact (name_of_methodNamed B.named B.method).1
  subst hsz
  have hD := hD0.self (sz := s.heap.size)
  have hA : ∀ q : Nat, s.heap.size ≤ q → va_A (pW cy X G M) s.heap.size q := fun q h => Or.inr h
  have hl := lv_entry av (n := maxL) hav
  rw [lg_entry_eq]
  exact body ((p, l, e, (headSpec ws rm).room, s, m, av.toArray, below, meth, c), (D, cy, G, va_A (pW cy X G M) s.heap.size, s.heap)) ⟨B.exec, B.bytes, hml, hown, hts, hK, hA, B.notSynchronized, B.returns, rfl, rfl⟩ hao hname rfl rfl rfl rfl rfl s.heap [] _ hP hD va_S.rf hl
section NCall
variable {p : Program} {l : Launch} {e : Env} {R : Room} {s : State} {m : MethodId} {args : Array Value} {below : List Frame} {meth : Method} {c : Code} {H H0 : Heap} {locs : List Loc} {cells slots mc ms pc : Nat} {ls : Array Slot} {rest st0 : List Value} {Q : State → Prop} {a : Array Value} {free : Addr → Prop} {A0 A1 : Nat → Prop} {D : va_G} {cy : Nat → ClassId} {X : va_W} {G : pG} {M : pM} {r : Option Value}
theorem jx_callN (hr : va_Run p l e R s m args below meth c H locs cells slots mc ms (F0 m pc ls st0) rest (jQ D cy X G M A1 r a) free) (hS : va_S A0 H0 H locs) (hA : ∀ q, A1 q → A0 q) (hf : ∀ q, free q → A0 q)
    (kk : ∀ (H1 : Heap) (locs1 : List Loc), va_P D vwCl (pW cy X G M) H1 → va_D A0 (pW cy X G M) → va_S A0 H0 H1 locs1 → W p l e R s m args below meth c H1 locs1 (cells + mc) (slots + ms) Q (F0 m (pc + 3) ls (r.toList ++ rest))) : W p l e R s m args below meth c H locs cells slots Q (F0 m pc ls st0) := by
  intro T hT X0
  obtain ⟨v, st₀, t, T', L, h0, X', hL, e1, e2, ⟨⟨hv, hP, hK, hD⟩, hz, hk⟩, st⟩ := hr T hT X0
  cases hv
  rw [h0] at hz hk
  obtain ⟨t2, a1, b1⟩ := kk T'.heap (locs ++ L) (by rw [e1]; exact hP) (hD.weaken (fun _ _ _ h => hA _ h))
    ⟨Nat.le_trans hS.1 (by rw [e1]; exact hz), fun q h1 h2 => by rw [e1, hk q (Nat.lt_of_lt_of_le h1 hS.1) (fun z => h2 (hA q z))]; exact hS.2.1 q h1 h2, fun q hq => by
      rcases List.mem_append.mp hq with h | h
      · exact hS.2.2 q h
      · exact hf _ (hL q h)⟩ T' rfl X'
  exact ⟨t2, st t2 a1, b1⟩
end NCall
section NC2
variable {C : jC} {cc : ByteArray} {nL : Nat} {Ts : List Cond} {own : String} {ret : Option FieldType} {rm : Room} {pc : Nat} {lv : List (Nat × Value)} {st rest : List Value} {X : va_W} {M M2 : pM} {G2 : pG} {kc ks mc ms : Nat} {Q : State → Prop}
/-- a call of a constructor that makes no cell -/
theorem j_callI (E : jE C cc nL Ts own ret rm) {y : MethodName} {bytes : ByteArray} {maxL index b : Nat} {wsY wsY' : List Cond} {rmY : Room} (hM : jK (jl C) y wsY rmY (jD C) (jcy C) X (jG C) M [.ref b] none X M2)
    (hd : decode cc pc = .ok (.invokespecial index, 3)) (hg : GoodIn Ts wsY) (hw : wsY = Cond.code y bytes maxL none :: wsY') (hini : Cond.initialized y.cls ∈ Ts) (hlk : Cond.methodLink own index y ∈ Ts) (him : Cond.instanceMethod y ∈ Ts) (hnm : y.name = "<init>") (hy : y.cls ≠ "java/lang/invoke/MethodHandle" ∧ y.cls ≠ "java/lang/invoke/VarHandle" ∧ (parseMethodDescriptor y.desc).map (fun d => d.parameters.length) = some 0)
    (hrm : rmY.cells = 0 ∧ rmY.slots = 0 ∧ rmY.frames + 1 ≤ rm.frames ∧ 8 + (maxL + 11) + rmY.locals ≤ rm.locals) (hk : kc ≤ rm.cells ∧ ks ≤ rm.slots) (hrest : (rest.map fun v => v.category).sum ≤ 8)
    (kk : jW C nL (pc + 3) lv rest X M2 kc ks Q) : jW C nL pc lv (.ref b :: rest) X M kc ks Q := fun H locs ls hP hD hS hl => by
  have hR := E.2.2.2.2.2.2.2.2.2.2
  have hFc := jA_sub hD hS E.2.2.2.2.2.2.1
  refine jx_call (A0 := jA C) (H0 := jH C) (va_runI (As := []) (rest := rest) (n := 0) ⟨E.1, E.2.1, E.2.2.1, E.2.2.2.1, E.2.2.2.2.1⟩ (hM H.size) (cwI 0 E.2.2.2.2.1 hg hw hrm.1 hrm.2.1 (E.2.2.2.2.1 _ hini) (E.2.2.2.2.1 _ hlk) (E.2.2.2.2.1 _ him) hnm hy ⟨by rw [hR]; exact hrm.2.2.1, by rw [hR]; exact hrm.2.2.2⟩) ⟨jPre_blind, fun U hU hW => ⟨rfl, by rw [hU], by rw [hU]; exact hP, va_K.moved hW.alike E.2.2.2.2.2.1, hD.weaken (fun _ _ _ _ => trivial)⟩⟩ rfl rfl hl.1 rfl (lv_room hrest) hd ⟨by rw [hR]; exact hk.1, by rw [hR]; exact hk.2⟩) hS (fun q _ h => hFc q h) hFc (fun H1 locs1 hP1 hS1 => ?_)
  exact kk H1 locs1 ls hP1 (jD_addr hD (pW_addr rfl)) hS1 hl
/-- a call of a constructor that makes cells -/
theorem j_callN (E : jE C cc nL Ts own ret rm) (hao : jAO C) {y : MethodName} {bytes : ByteArray} {maxL index b sz : Nat} {wsY wsY' : List Cond} {rmY : Room} (hM : jKN (jl C) y wsY rmY (jD C) (jcy C) X (jG C) M [.ref b] G2 M2 mc ms sz) (hsz0 : (js C).heap.size + kc = sz) (hlast : kc = 0 ∨ (js C).heap.size + (kc - 1) ∈ (jG C).1)
    (hd : decode cc pc = .ok (.invokespecial index, 3)) (hg : GoodIn Ts wsY) (hw : wsY = Cond.code y bytes maxL none :: wsY') (hini : Cond.initialized y.cls ∈ Ts) (hlk : Cond.methodLink own index y ∈ Ts) (him : Cond.instanceMethod y ∈ Ts) (hnm : y.name = "<init>") (hy : y.cls ≠ "java/lang/invoke/MethodHandle" ∧ y.cls ≠ "java/lang/invoke/VarHandle" ∧ (parseMethodDescriptor y.desc).map (fun d => d.parameters.length) = some 0)
    (hrm : rmY.cells = mc ∧ rmY.slots = ms ∧ rmY.frames + 1 ≤ rm.frames ∧ 8 + (maxL + 11) + rmY.locals ≤ rm.locals) (hk : kc + mc ≤ rm.cells ∧ ks + ms ≤ rm.slots) (hrest : (rest.map fun v => v.category).sum ≤ 8)
    (kk : jW (jS C G2) nL (pc + 3) lv rest X M2 (kc + mc) (ks + ms) Q) : jW C nL pc lv (.ref b :: rest) X M kc ks Q := by
  refine j_sz E hlast fun H locs ls hsz hP hD hS hl => ?_
  have hR := E.2.2.2.2.2.2.2.2.2.2
  have hFc := jA_sub hD hS E.2.2.2.2.2.2.1
  rw [hsz0] at hsz
  subst hsz
  refine jx_callN (A0 := jA C) (H0 := jH C) (va_runI (As := []) (rest := rest) (n := 0) ⟨E.1, E.2.1, E.2.2.1, E.2.2.2.1, E.2.2.2.2.1⟩ hM (cwI 0 E.2.2.2.2.1 hg hw hrm.1 hrm.2.1 (E.2.2.2.2.1 _ hini) (E.2.2.2.2.1 _ hlk) (E.2.2.2.2.1 _ him) hnm hy ⟨by rw [hR]; exact hrm.2.2.1, by rw [hR]; exact hrm.2.2.2⟩) ⟨jPreN_blind, fun U hU hW => ⟨rfl, ⟨by rw [hU], by rw [hU]; exact hP, va_K.moved hW.alike E.2.2.2.2.2.1, hD.weaken (fun _ _ _ _ => trivial)⟩, va_AO.moved hW.alike hao.1, va_AO.moved hW.alike hao.2.1, va_AO.moved hW.alike hao.2.2⟩⟩ rfl rfl hl.1 rfl (lv_room hrest) hd ⟨by rw [hR]; exact hk.1, by rw [hR]; exact hk.2⟩) hS hFc hFc (fun H1 locs1 hP1 hD1 hS1 => ?_)
  exact kk H1 locs1 ls hP1 hD1 hS1 hl
end NC2
/-! n-rows: the same over a shape that is given beside C -/
section NRows
variable {C : jC} {cc : ByteArray} {nL : Nat} {Ts : List Cond} {own : String} {ret : Option FieldType} {rm : Room} {pc : Nat} {lv : List (Nat × Value)} {st rest : List Value} {X : va_W} {M M2 : pM} {G2 : pG} {kc ks mc ms : Nat} {Q : State → Prop}
theorem jS_E (E : jE C cc nL Ts own ret rm) {G : pG} : jE (jS C G) cc nL Ts own ret rm := E
theorem jS_self {C : jC} (k : jW (jS C (jG C)) nL pc lv st X M kc ks Q) : jW C nL pc lv st X M kc ks Q := k
theorem n_new (E : jE C cc nL Ts own ret rm) {G : pG} {ci N index : Nat} {Cn : String} {T : u_T} (hd : decode cc pc = .ok (.new index, 3)) (hcl : vwCl[ci]? = some (Cn, T, N)) (hin : ∀ w ∈ u_ws Cn T N, w ∈ Ts) (ty0 : Nat → FieldType) (hty : ∀ k, k < N → parseFieldDescriptor (T k).2.2.1 = some (ty0 k)) (hlk : Cond.classLink own index Cn ∈ Ts) (hins : Cond.instantiable Cn N ∈ Ts) (hini : Cond.initialized Cn ∈ Ts)
    (hfs : ∀ j, j < N → defaultValue (ty0 j) = vp_V (pdf (pty ci)) j) {q : Nat} (hq : (js C).heap.size + kc = q) (hlast : kc = 0 ∨ (js C).heap.size + (kc - 1) ∈ G.1) (hK : G.2.1 q = ci) (hz : pZ G M q) (hcells : kc + 1 ≤ rm.cells) (hslots : ks + N ≤ rm.slots)
    (kk : jW (jS C (pAdd G q)) nL (pc + 3) lv (.ref q :: st) X M (kc + 1) (ks + N) Q) : jW (jS C G) nL pc lv st X M kc ks Q := j_new (C := jS C G) (jS_E E) hd hcl hin ty0 hty hlk hins hini hfs hq hlast hK hz hcells hslots kk
theorem n_newaC (E : jE C cc nL Ts own ret rm) {G : pG} {N : Nat} {n : Int32} (hd : decode cc pc = .ok (.newarray .char, 2)) (harr : Cond.arrayClass .char ∈ Ts) (hn : n = nI N) (hN31 : N < 1000) {q : Nat} (hq : (js C).heap.size + kc = q) (hlast : kc = 0 ∨ (js C).heap.size + (kc - 1) ∈ G.1) (hK : G.2.1 q = 8) (hlen : G.2.2.1 q = N) (hz : pZ G M q) (hcells : kc + 1 ≤ rm.cells) (hslots : ks + N ≤ rm.slots)
    (kk : jW (jS C (pAdd G q)) nL (pc + 2) lv (.ref q :: st) X M (kc + 1) (ks + N) Q) : jW (jS C G) nL pc lv (.int n :: st) X M kc ks Q := j_newaC (C := jS C G) (jS_E E) hd harr hn hN31 hq hlast hK hlen hz hcells hslots kk
theorem n_newaF (E : jE C cc nL Ts own ret rm) {G : pG} {N : Nat} {n : Int32} (hd : decode cc pc = .ok (.newarray .float, 2)) (harr : Cond.arrayClass .float ∈ Ts) (hn : n = nI N) (hN31 : N < 1000) {q : Nat} (hq : (js C).heap.size + kc = q) (hlast : kc = 0 ∨ (js C).heap.size + (kc - 1) ∈ G.1) (hK : G.2.1 q = 9) (hlen : G.2.2.1 q = N) (hz : pZ G M q) (hcells : kc + 1 ≤ rm.cells) (hslots : ks + N ≤ rm.slots)
    (kk : jW (jS C (pAdd G q)) nL (pc + 2) lv (.ref q :: st) X M (kc + 1) (ks + N) Q) : jW (jS C G) nL pc lv (.int n :: st) X M kc ks Q := j_newaF (C := jS C G) (jS_E E) hd harr hn hN31 hq hlast hK hlen hz hcells hslots kk
theorem n_newaI (E : jE C cc nL Ts own ret rm) {G : pG} {N : Nat} {n : Int32} (hd : decode cc pc = .ok (.newarray .int, 2)) (harr : Cond.arrayClass .int ∈ Ts) (hn : n = nI N) (hN31 : N < 1000) {q : Nat} (hq : (js C).heap.size + kc = q) (hlast : kc = 0 ∨ (js C).heap.size + (kc - 1) ∈ G.1) (hK : G.2.1 q = 10) (hlen : G.2.2.1 q = N) (hz : pZ G M q) (hcells : kc + 1 ≤ rm.cells) (hslots : ks + N ≤ rm.slots)
    (kk : jW (jS C (pAdd G q)) nL (pc + 2) lv (.ref q :: st) X M (kc + 1) (ks + N) Q) : jW (jS C G) nL pc lv (.int n :: st) X M kc ks Q := j_newaI (C := jS C G) (jS_E E) hd harr hn hN31 hq hlast hK hlen hz hcells hslots kk
theorem n_newaZ (E : jE C cc nL Ts own ret rm) {G : pG} {N : Nat} {n : Int32} (hd : decode cc pc = .ok (.newarray .boolean, 2)) (harr : Cond.arrayClass .boolean ∈ Ts) (hn : n = nI N) (hN31 : N < 1000) {q : Nat} (hq : (js C).heap.size + kc = q) (hlast : kc = 0 ∨ (js C).heap.size + (kc - 1) ∈ G.1) (hK : G.2.1 q = 11) (hlen : G.2.2.1 q = N) (hz : pZ G M q) (hcells : kc + 1 ≤ rm.cells) (hslots : ks + N ≤ rm.slots)
    (kk : jW (jS C (pAdd G q)) nL (pc + 2) lv (.ref q :: st) X M (kc + 1) (ks + N) Q) : jW (jS C G) nL pc lv (.int n :: st) X M kc ks Q := j_newaZ (C := jS C G) (jS_E E) hd harr hn hN31 hq hlast hK hlen hz hcells hslots kk
theorem n_anewP (E : jE C cc nL Ts own ret rm) {G : pG} (hao : va_AO RX2 (js C)) {N index : Nat} {n : Int32} (hd : decode cc pc = .ok (.anewarray index, 3)) (hlk : Cond.classLink own index RX2 ∈ Ts) (hn : n = nI N) (hN31 : N < 1000) {q : Nat} (hq : (js C).heap.size + kc = q) (hlast : kc = 0 ∨ (js C).heap.size + (kc - 1) ∈ G.1) (hK : G.2.1 q = 12) (hlen : G.2.2.1 q = N) (hz : pZ G M q) (hcells : kc + 1 ≤ rm.cells) (hslots : ks + N ≤ rm.slots)
    (kk : jW (jS C (pAdd G q)) nL (pc + 3) lv (.ref q :: st) X M (kc + 1) (ks + N) Q) : jW (jS C G) nL pc lv (.int n :: st) X M kc ks Q := j_anewP (C := jS C G) (jS_E E) hao hd hlk hn hN31 hq hlast hK hlen hz hcells hslots kk
theorem n_anewR (E : jE C cc nL Ts own ret rm) {G : pG} (hao : va_AO RX4 (js C)) {N index : Nat} {n : Int32} (hd : decode cc pc = .ok (.anewarray index, 3)) (hlk : Cond.classLink own index RX4 ∈ Ts) (hn : n = nI N) (hN31 : N < 1000) {q : Nat} (hq : (js C).heap.size + kc = q) (hlast : kc = 0 ∨ (js C).heap.size + (kc - 1) ∈ G.1) (hK : G.2.1 q = 13) (hlen : G.2.2.1 q = N) (hz : pZ G M q) (hcells : kc + 1 ≤ rm.cells) (hslots : ks + N ≤ rm.slots)
    (kk : jW (jS C (pAdd G q)) nL (pc + 3) lv (.ref q :: st) X M (kc + 1) (ks + N) Q) : jW (jS C G) nL pc lv (.int n :: st) X M kc ks Q := j_anewR (C := jS C G) (jS_E E) hao hd hlk hn hN31 hq hlast hK hlen hz hcells hslots kk
theorem n_anewS (E : jE C cc nL Ts own ret rm) {G : pG} (hao : va_AO RX5 (js C)) {N index : Nat} {n : Int32} (hd : decode cc pc = .ok (.anewarray index, 3)) (hlk : Cond.classLink own index RX5 ∈ Ts) (hn : n = nI N) (hN31 : N < 1000) {q : Nat} (hq : (js C).heap.size + kc = q) (hlast : kc = 0 ∨ (js C).heap.size + (kc - 1) ∈ G.1) (hK : G.2.1 q = 14) (hlen : G.2.2.1 q = N) (hz : pZ G M q) (hcells : kc + 1 ≤ rm.cells) (hslots : ks + N ≤ rm.slots)
    (kk : jW (jS C (pAdd G q)) nL (pc + 3) lv (.ref q :: st) X M (kc + 1) (ks + N) Q) : jW (jS C G) nL pc lv (.int n :: st) X M kc ks Q := j_anewS (C := jS C G) (jS_E E) hao hd hlk hn hN31 hq hlast hK hlen hz hcells hslots kk
theorem n_putR (E : jE C cc nL Ts own ret rm) {G : pG} (hinit : (jme C).name = "<init>") {a ci k N index v : Nat} {Cn : String} {T : u_T} {ty : FieldType} (hd : decode cc pc = .ok (.putfield index, 3)) (hL : a ∈ G.1) (hK : G.2.1 a = ci) (hcl : vwCl[ci]? = some (Cn, T, N)) (hk : k < N) (hin : ∀ w ∈ u_ws Cn T N, w ∈ Ts) (hlk : Cond.fieldLink own index (T k).1 (T k).2.1 (T k).2.2.1 ∈ Ts) (ht : (pty ci)[k]? = some 2) (ty0 : Nat → FieldType) (hty : ∀ k, k < N → parseFieldDescriptor (T k).2.2.1 = some (ty0 k)) (hnm : ∀ a, a < N → ∀ b, b < N → a ≠ b → (T a).2.1 ≠ (T b).2.1) (hfin : (T k).2.2.2 = true) (hdecl : (T k).1 = own) (hty1 : ty0 k = ty) (hn : narrow ty (.ref v) = .ref v) (hfit : fits ty (.ref v) = true)
    (kk : jW (jS C (pPut G a k v)) nL (pc + 3) lv st X M kc ks Q) : jW (jS C G) nL pc lv (.ref v :: .ref a :: st) X M kc ks Q := j_putR (C := jS C G) (jS_E E) hinit hd hL hK hcl hk hin hlk ht ty0 hty hnm hfin hdecl hty1 hn hfit kk
theorem n_aastR (E : jE C cc nL Ts own ret rm) {G : pG} {a b ci n kd j : Nat} {r : vw_C} {i : Int32} (hd : decode cc pc = .ok (.aastore, 1)) (hL : a ∈ G.1) (hlen : G.2.2.1 a = n) (hi : i = nI j) (hj : j < n) (hn : n < 1000) (hK : G.2.1 a = kd) (hkd : 12 ≤ kd) (ht : (ptys (jcy C))[kd - 8]? = some (jcy C (kd - 8), .object r.1)) (hLb : b ∈ G.1) (hKb : G.2.1 b = ci) (hcl : vwCl[ci]? = some r)
    (kk : jW (jS C (pPut G a j b)) nL (pc + 1) lv st X M kc ks Q) : jW (jS C G) nL pc lv (.ref b :: .int i :: .ref a :: st) X M kc ks Q := j_aastR (C := jS C G) (jS_E E) hd hL hlen hi hj hn hK hkd ht hLb hKb hcl kk
theorem n_callI (E : jE C cc nL Ts own ret rm) {G : pG} {y : MethodName} {bytes : ByteArray} {maxL index b : Nat} {wsY wsY' : List Cond} {rmY : Room} (hM : jK (jl C) y wsY rmY (jD C) (jcy C) X G M [.ref b] none X M2)
    (hd : decode cc pc = .ok (.invokespecial index, 3)) (hg : GoodIn Ts wsY) (hw : wsY = Cond.code y bytes maxL none :: wsY') (hini : Cond.initialized y.cls ∈ Ts) (hlk : Cond.methodLink own index y ∈ Ts) (him : Cond.instanceMethod y ∈ Ts) (hnm : y.name = "<init>") (hy : y.cls ≠ "java/lang/invoke/MethodHandle" ∧ y.cls ≠ "java/lang/invoke/VarHandle" ∧ (parseMethodDescriptor y.desc).map (fun d => d.parameters.length) = some 0)
    (hrm : rmY.cells = 0 ∧ rmY.slots = 0 ∧ rmY.frames + 1 ≤ rm.frames ∧ 8 + (maxL + 11) + rmY.locals ≤ rm.locals) (hk : kc ≤ rm.cells ∧ ks ≤ rm.slots) (hrest : (rest.map fun v => v.category).sum ≤ 8)
    (kk : jW (jS C G) nL (pc + 3) lv rest X M2 kc ks Q) : jW (jS C G) nL pc lv (.ref b :: rest) X M kc ks Q := j_callI (C := jS C G) (jS_E E) hM hd hg hw hini hlk him hnm hy hrm hk hrest kk
theorem n_callN (E : jE C cc nL Ts own ret rm) {G : pG} (hao : jAO C) {y : MethodName} {bytes : ByteArray} {maxL index b sz : Nat} {wsY wsY' : List Cond} {rmY : Room} (hM : jKN (jl C) y wsY rmY (jD C) (jcy C) X G M [.ref b] G2 M2 mc ms sz) (hsz0 : (js C).heap.size + kc = sz) (hlast : kc = 0 ∨ (js C).heap.size + (kc - 1) ∈ G.1)
    (hd : decode cc pc = .ok (.invokespecial index, 3)) (hg : GoodIn Ts wsY) (hw : wsY = Cond.code y bytes maxL none :: wsY') (hini : Cond.initialized y.cls ∈ Ts) (hlk : Cond.methodLink own index y ∈ Ts) (him : Cond.instanceMethod y ∈ Ts) (hnm : y.name = "<init>") (hy : y.cls ≠ "java/lang/invoke/MethodHandle" ∧ y.cls ≠ "java/lang/invoke/VarHandle" ∧ (parseMethodDescriptor y.desc).map (fun d => d.parameters.length) = some 0)
    (hrm : rmY.cells = mc ∧ rmY.slots = ms ∧ rmY.frames + 1 ≤ rm.frames ∧ 8 + (maxL + 11) + rmY.locals ≤ rm.locals) (hk : kc + mc ≤ rm.cells ∧ ks + ms ≤ rm.slots) (hrest : (rest.map fun v => v.category).sum ≤ 8)
    (kk : jW (jS C G2) nL (pc + 3) lv rest X M2 (kc + mc) (ks + ms) Q) : jW (jS C G) nL pc lv (.ref b :: rest) X M kc ks Q := j_callN (C := jS C G) (jS_E E) hao hM hsz0 hlast hd hg hw hini hlk him hnm hy hrm hk hrest kk
end NRows
