/-! The law makes its two cells: they stand ahead of the pool. -/
theorem va_P_mv {D : va_G} {cl : List vw_C} {X Y : va_W} {n : Nat × va_E} {H : Heap} (h : va_P D cl ((X ++ Y) ++ [n]) H) : va_P D cl ((X ++ [n]) ++ Y) H := by
  intro k q hq
  have h1 : q ∈ (X ++ [n]) ++ Y := List.mem_of_getElem? hq
  have h2 : q ∈ (X ++ Y) ++ [n] := by
    simp only [List.mem_append, List.mem_singleton] at h1 ⊢
    rcases h1 with (h1 | h1) | h1
    · exact Or.inl (Or.inl h1)
    · exact Or.inr h1
    · exact Or.inl (Or.inr h1)
  obtain ⟨j, hj⟩ := List.getElem?_of_mem h2
  exact h j q hj
theorem va_D_nd {A : Nat → Prop} {ws : va_W} : va_D A ws ↔ (ws.map Prod.fst).Nodup ∧ ∀ q ∈ ws, A q.1 := by
  rw [List.nodup_iff_pairwise_ne, List.pairwise_map, List.pairwise_iff_getElem]
  constructor
  · rintro ⟨h1, h2⟩
    refine ⟨fun i j hi hj hij e => ?_, fun q hq => ?_⟩
    · have := h1 i j _ _ (List.getElem?_eq_getElem hi) (List.getElem?_eq_getElem hj) e
      omega
    · obtain ⟨j, hj⟩ := List.getElem?_of_mem hq
      exact h2 j q hj
  · rintro ⟨h1, h2⟩
    refine ⟨fun i j p q hi hj e => ?_, fun k q hq => h2 q (List.mem_of_getElem? hq)⟩
    obtain ⟨li, ei⟩ := List.getElem?_eq_some_iff.mp hi
    obtain ⟨lj, ej⟩ := List.getElem?_eq_some_iff.mp hj
    rcases Nat.lt_trichotomy i j with c | c | c
    · exact absurd (by rw [ei, ej]; exact e) (h1 i j li lj c)
    · exact c
    · exact absurd (by rw [ei, ej]; exact e.symm) (h1 j i lj li c)
theorem va_D_mv {A : Nat → Prop} {X Y : va_W} {n : Nat × va_E} (h : va_D A ((X ++ Y) ++ [n])) : va_D A ((X ++ [n]) ++ Y) := by
  rw [va_D_nd] at h ⊢
  have hp : List.Perm ((X ++ [n]) ++ Y) ((X ++ Y) ++ [n]) := by
    rw [List.append_assoc, List.append_assoc]
    exact List.Perm.append_left X List.perm_append_comm
  exact ⟨(hp.map Prod.fst).nodup_iff.mpr h.1, fun q hq => h.2 q (hp.mem_iff.mp hq)⟩
section LN
variable {C : jC} {cc : ByteArray} {nL : Nat} {Ts : List Cond} {own : String} {ret : Option FieldType} {rm : Room} {pc : Nat} {lv : List (Nat × Value)} {st : List Value} {X : va_W} {M : pM} {kc ks : Nat} {Q : State → Prop}
theorem j_szX (E : jE C cc nL Ts own ret rm) {n : Nat} {en : Nat × va_E} (hlast : (pW (jcy C) X (jG C) M)[n]? = some en) (hen : en.1 + 1 = (js C).heap.size + kc) (k : ∀ (H : Heap) (locs : List Loc) (ls : Array Slot), H.size = (js C).heap.size + kc → va_P (jD C) vwCl (pW (jcy C) X (jG C) M) H → va_D (jA C) (pW (jcy C) X (jG C) M) → va_S (jA C) (jH C) H locs → lv_has ls nL lv →
    W (jp C) (jl C) (je C) (jR C) (js C) (jm C) (ja C) (jb C) (jme C) (jc C) H locs kc ks Q (F0 (jm C) pc ls st)) : jW C nL pc lv st X M kc ks Q := fun H locs ls hP hD hS hl T hT XS => by
  have h1 : H.size ≤ (js C).heap.size + kc := by
    have h2 : (T.setVm (js C).vm).heap.size ≤ (js C).heap.size + kc := XS.same.2.2.1
    rw [← hT]; exact h2
  have h3 : (js C).heap.size + kc ≤ H.size := by
    have h4 := (hP n en hlast).lt
    omega
  exact k H locs ls (Nat.le_antisymm h1 h3) hP hD hS hl T hT XS
theorem j_newL (E : jE C cc nL Ts own ret rm) {h : Nat} (hd : decode cc pc = .ok (.newarray .long, 2)) (harr : Cond.arrayClass .long ∈ Ts) (hq : (js C).heap.size + kc = h + 69) (hlast : kc = 0 ∨ (js C).heap.size + (kc - 1) ∈ (jG C).1) (hcells : kc + 1 ≤ rm.cells) (hslots : ks + 1 ≤ rm.slots)
    (kk : jW C nL (pc + 2) lv (.ref (h + 69) :: st) [(h + 69, .inl (jcy C 7, 1, .inr (.inl (fun _ => 0))))] M (kc + 1) (ks + 1) Q) : jW C nL pc lv (.int 1 :: st) [] M kc ks Q := by
  refine j_sz E hlast fun H locs ls hsz hP hD hS hl => ?_
  have hR := E.2.2.2.2.2.2.2.2.2.2
  have hHs := E.2.2.2.2.2.2.2.2.2.1
  rw [hq] at hsz
  refine va_newaK (atype := .long) E.1 E.2.1 (E.2.2.2.2.1 _ harr) rfl hd rfl (by decide) (N := 1) (by decide) (by decide) (by rw [hR]; exact hcells) (by rw [hR]; exact hslots) hsz fun H1 cA e1 z1 o1 hAr hNm => ?_
  have hcA : cA = jcy C 7 := Option.some.inj (hNm.symm.trans (E.2.2.2.2.2.1.2 7 _ rfl).2)
  have hk : ∀ (k : Nat) (x : Nat × va_E), (pW (jcy C) [] (jG C) M)[k]? = some x → H1[x.1]? = H[x.1]? := fun k x hx => o1 x.1 (by rw [← hsz]; exact (hP k x hx).lt)
  have hA : jA C (h + 69) := E.2.2.2.2.2.2.1 _ (by rw [hHs]; omega)
  have hP1 : va_P (jD C) vwCl (pW (jcy C) [] (jG C) M ++ [(h + 69, .inl (jcy C 7, 1, .inr (.inl (fun _ => 0))))]) H1 := by
    refine (hP.kept hk).app (fun k x hx => ?_)
    have hz9 : k < 1 := (List.getElem?_eq_some_iff.mp hx).1
    rw [show k = 0 by omega] at hx
    cases hx
    show H1[h + 69]? = some (vp_cell _ _)
    rw [e1, hcA]
    rfl
  have hD1 : va_D (jA C) (pW (jcy C) [] (jG C) M ++ [(h + 69, .inl (jcy C 7, 1, .inr (.inl (fun _ => 0))))]) := hD.push hP hsz.symm hA
  exact kk H1 locs ls (va_P_mv hP1) (va_D_mv hD1) ⟨Nat.le_trans hS.1 (by omega), fun x h1 h2 => (o1 x (by have := hS.1; have h9 : x < (jH C).size := h1; omega)).trans (hS.2.1 x h1 h2), hS.2.2⟩ hl
theorem j_newD (E : jE C cc nL Ts own ret rm) {h : Nat} {o : Nat → Int64} (hd : decode cc pc = .ok (.newarray .double, 2)) (harr : Cond.arrayClass .double ∈ Ts) (hq : (js C).heap.size + kc = h + 70) (hcells : kc + 1 ≤ rm.cells) (hslots : ks + 1 ≤ rm.slots)
    (kk : jW C nL (pc + 2) lv (.ref (h + 70) :: st) (lX (jcy C) h o (fun _ => 0)) M (kc + 1) (ks + 1) Q) : jW C nL pc lv (.int 1 :: st) [(h + 69, .inl (jcy C 7, 1, .inr (.inl o)))] M kc ks Q := by
  refine j_szX E (n := 0) (en := (h + 69, .inl (jcy C 7, 1, .inr (.inl o)))) rfl (by show h + 69 + 1 = _; omega) fun H locs ls hsz hP hD hS hl => ?_
  have hR := E.2.2.2.2.2.2.2.2.2.2
  have hHs := E.2.2.2.2.2.2.2.2.2.1
  rw [hq] at hsz
  refine va_newaK (atype := .double) E.1 E.2.1 (E.2.2.2.2.1 _ harr) rfl hd rfl (by decide) (N := 1) (by decide) (by decide) (by rw [hR]; exact hcells) (by rw [hR]; exact hslots) hsz fun H1 cA e1 z1 o1 hAr hNm => ?_
  have hcA : cA = jcy C 8 := Option.some.inj (hNm.symm.trans (E.2.2.2.2.2.1.2 8 _ rfl).2)
  have hk : ∀ (k : Nat) (x : Nat × va_E), (pW (jcy C) [(h + 69, .inl (jcy C 7, 1, .inr (.inl o)))] (jG C) M)[k]? = some x → H1[x.1]? = H[x.1]? := fun k x hx => o1 x.1 (by rw [← hsz]; exact (hP k x hx).lt)
  have hA : jA C (h + 70) := E.2.2.2.2.2.2.1 _ (by rw [hHs]; omega)
  have hP1 : va_P (jD C) vwCl (pW (jcy C) [(h + 69, .inl (jcy C 7, 1, .inr (.inl o)))] (jG C) M ++ [(h + 70, .inl (jcy C 8, 1, .inr (.inr (.inr (.inl (fun _ => 0))))))]) H1 := by
    refine (hP.kept hk).app (fun k x hx => ?_)
    have hz9 : k < 1 := (List.getElem?_eq_some_iff.mp hx).1
    rw [show k = 0 by omega] at hx
    cases hx
    show H1[h + 70]? = some (vp_cell _ _)
    rw [e1, hcA]
    rfl
  have hD1 : va_D (jA C) (pW (jcy C) [(h + 69, .inl (jcy C 7, 1, .inr (.inl o)))] (jG C) M ++ [(h + 70, .inl (jcy C 8, 1, .inr (.inr (.inr (.inl (fun _ => 0))))))]) := hD.push hP hsz.symm hA
  exact kk H1 locs ls (va_P_mv hP1) (va_D_mv hD1) ⟨Nat.le_trans hS.1 (by omega), fun x h1 h2 => (o1 x (by have := hS.1; have h9 : x < (jH C).size := h1; omega)).trans (hS.2.1 x h1 h2), hS.2.2⟩ hl
end LN
