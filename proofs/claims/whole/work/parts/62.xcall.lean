/-! Calls of methods that throw: where the outcome is a return, where it is a throw that leaves the caller too. -/
section XCall
variable {p : Program} {l : Launch} {e : Env} {R : Room} {s : State} {m : MethodId} {args : Array Value} {below : List Frame} {meth : Method} {c : Code} {H H0 : Heap} {locs : List Loc} {cells slots mc ms pc : Nat} {ls : Array Slot} {rest st0 : List Value} {Q : State → Prop} {a : Array Value} {free : Addr → Prop} {A0 A1 : Nat → Prop} {D : va_G} {cy : Nat → ClassId} {X : va_W} {G : pG} {M M1 : pM} {r : Option Value} {Ex : String}
theorem jx_ok (hr : vx_Run p l e R s m args below meth c H locs cells slots mc ms (F0 m pc ls st0) rest (jXQ D cy X G A1 (.inl (r, M)) a) (jXX D cy X G M1 A1 (.inl (r, M))) free) (hS : va_S A0 H0 H locs) (hA : ∀ q, q < H.size → A1 q → A0 q) (hf : ∀ q, free q → A0 q)
    (kk : ∀ (H1 : Heap) (locs1 : List Loc), va_P D vwCl (pW cy X G M) H1 → va_S A0 H0 H1 locs1 → W p l e R s m args below meth c H1 locs1 (cells + mc) (slots + ms) Q (F0 m (pc + 3) ls (r.toList ++ rest))) : W p l e R s m args below meth c H locs cells slots Q (F0 m pc ls st0) := by
  intro T hT X0
  rcases hr T hT X0 with ⟨v, st₀, t, T', L, h0, X', hL, e1, e2, ⟨⟨hv, hP, hK, hD⟩, hF⟩, st⟩ | ⟨q, st₀, t, T', L, E, ce, h0, X', hL, e1, e2, hx, hce, hcv, hcl, st⟩
  · cases hv
    obtain ⟨k1, k2, k3⟩ := vx_keep h0 e1 hS hA hf hL hF
    obtain ⟨t2, a1, b1⟩ := kk T'.heap (locs ++ L) (by rw [e1]; exact hP) k3 T' rfl X'
    exact ⟨t2, st t2 a1, b1⟩
  · exact (hx : False).elim
theorem jx_out (hr : vx_Run p l e R s m args below meth c H locs cells slots mc ms (F0 m pc ls st0) rest (jXQ D cy X G A1 (.inr Ex) a) (jXX D cy X G M1 A1 (.inr Ex)) free) (hS : va_S A0 H0 H locs) (hA : ∀ q, q < H.size → A1 q → A0 q) (hf : ∀ q, free q → A0 q)
    (kx : ∀ (H1 : Heap) (locs1 : List Loc) (q : Addr) (ce : Cell), va_P D vwCl (pW cy X G M1) H1 → va_S A0 H0 H1 locs1 → H1[q]? = some ce → ce.vm = .none → s.vm.findClass Ex = some ce.cls → vx_W p l e R s m args below meth c H1 locs1 (cells + mc) (slots + ms) Q (F0 m pc ls rest) q) : W p l e R s m args below meth c H locs cells slots Q (F0 m pc ls st0) := by
  intro T hT X0
  rcases hr T hT X0 with ⟨v, st₀, t, T', L, h0, X', hL, e1, e2, hx, st⟩ | ⟨q, st₀, t, T', L, E, ce, h0, X', hL, e1, e2, ⟨hE, ⟨hP, hK, hD⟩, hF⟩, hce, hcv, hcl, st⟩
  · exact (hx : False).elim
  · subst hE
    obtain ⟨k1, k2, k3⟩ := vx_keep h0 e1 hS hA hf hL hF
    obtain ⟨t2, a1, b1⟩ := kx T'.heap (locs ++ L) q ce (by rw [e1]; exact hP) k3 (by rw [e1]; exact hce) hcv hcl T' rfl X'
    exact ⟨t2, st.trans a1, b1⟩
end XCall
section XC2
variable {C : jC} {cc : ByteArray} {nL : Nat} {Ts : List Cond} {own : String} {ret : Option FieldType} {rm : Room} {pc : Nat} {lv : List (Nat × Value)} {st rest : List Value} {X : va_W} {M M2 : pM} {kc ks mc ms mc2 ms2 : Nat} {Q : State → Prop} {y : MethodName} {bytes : ByteArray} {maxL n index : Nat} {retY : Option FieldType} {wsY wsY' : List Cond} {rmY : Room} {As : List Value} {r : Option Value} {Ex : String}
theorem j_pre {H : Heap} {locs : List Loc} (E : jE C cc nL Ts own ret rm) (hx : xW (jA C) (js C) (js C).heap) (hP : va_P (jD C) vwCl (pW (jcy C) X (jG C) M) H) (hD : va_D (jA C) (pW (jcy C) X (jG C) M)) (hS : va_S (jA C) (jH C) H locs) : ∀ U : State, U.heap = H → (js C).WarmedH U.vm → va_Pc As (jPreX (jD C) (jcy C) X (jG C) M H.size) As.toArray U := by
  intro U hU hW
  have hH := E.2.2.2.2.2.2.2.2.2.1
  have hS9 := hS
  rw [hH] at hS9
  have hA := E.2.2.2.2.2.2.1
  exact ⟨rfl, ⟨by rw [hU], by rw [hU]; exact hP, va_K.moved hW.alike E.2.2.2.2.2.1, hD.weaken (fun _ _ _ _ => trivial)⟩, by rw [hU]; exact hx.to hS9 (jA_sub hD hS hA) hW⟩
theorem j_xS_ok (E : jE C cc nL Ts own ret rm) (hx : xW (jA C) (js C) (js C).heap) (hM : jKX (jl C) y wsY rmY (jD C) (jcy C) X (jG C) M As (.inl (r, M2)) mc ms)
    (hd : decode cc pc = .ok (.invokestatic index, 3)) (hg : GoodIn Ts (va_wsS own index y wsY)) (hw : wsY = Cond.code y bytes maxL retY :: wsY') (hy : y.cls ≠ "java/lang/invoke/MethodHandle" ∧ y.cls ≠ "java/lang/invoke/VarHandle" ∧ (parseMethodDescriptor y.desc).map (fun d => d.parameters.length) = some n)
    (hrm : rmY.cells = mc ∧ rmY.slots = ms ∧ rmY.frames + 1 ≤ rm.frames ∧ 8 + (maxL + 11) + rmY.locals ≤ rm.locals) (hk : kc + mc ≤ rm.cells ∧ ks + ms ≤ rm.slots) (hn : As.length = n) (hst : st = As.reverse ++ rest) (hrest : (rest.map fun v => v.category).sum ≤ 8)
    (kk : jW C nL (pc + 3) lv (r.toList ++ rest) X M2 (kc + mc) (ks + ms) Q) : jW C nL pc lv st X M kc ks Q := fun H locs ls hP hD hS hl => by
  have hR := E.2.2.2.2.2.2.2.2.2.2
  subst hst
  have hFc := jA_sub hD hS E.2.2.2.2.2.2.1
  refine jx_ok (A0 := jA C) (H0 := jH C) (vx_runS (As := As) (rest := rest) (n := n) ⟨E.1, E.2.1, E.2.2.1, E.2.2.2.1, E.2.2.2.2.1⟩ (hM H.size) (va_cwS n E.2.2.2.2.1 hg hw hrm.1 hrm.2.1 hy ⟨by rw [hR]; exact hrm.2.2.1, by rw [hR]; exact hrm.2.2.2⟩) ⟨jPreX_blind, j_pre E hx hP hD hS⟩ rfl hn hl.1 rfl (lv_room hrest) hd ⟨by rw [hR]; exact hk.1, by rw [hR]; exact hk.2⟩) hS (fun q _ h => hFc q h) hFc (fun H1 locs1 hP1 hS1 => ?_)
  exact kk H1 locs1 ls hP1 (jD_addr hD (pW_addr rfl)) hS1 hl
theorem j_xV_ok (E : jE C cc nL Ts own ret rm) (hx : xW (jA C) (js C) (js C).heap) {ci N b : Nat} {Cn : String} {T : u_T} (hM : jKX (jl C) y wsY rmY (jD C) (jcy C) X (jG C) M (.ref b :: As) (.inl (r, M2)) mc ms)
    (hd : decode cc pc = .ok (.invokevirtual index, 3)) (hg : GoodIn Ts (wsV own index Cn y wsY)) (hw : wsY = Cond.code y bytes maxL retY :: wsY') (hy : y.cls = Cn ∧ y.cls ≠ "java/lang/invoke/MethodHandle" ∧ y.cls ≠ "java/lang/invoke/VarHandle" ∧ (parseMethodDescriptor y.desc).map (fun d => d.parameters.length) = some n)
    (hrm : rmY.cells = mc ∧ rmY.slots = ms ∧ rmY.frames + 1 ≤ rm.frames ∧ 8 + (maxL + 11) + rmY.locals ≤ rm.locals) (hk : kc + mc ≤ rm.cells ∧ ks + ms ≤ rm.slots) (hL : b ∈ (jG C).1) (hK : (jG C).2.1 b = ci) (hcl : vwCl[ci]? = some (Cn, T, N)) (hn : As.length = n) (hst : st = As.reverse ++ .ref b :: rest) (hrest : (rest.map fun v => v.category).sum ≤ 8)
    (kk : jW C nL (pc + 3) lv (r.toList ++ rest) X M2 (kc + mc) (ks + ms) Q) : jW C nL pc lv st X M kc ks Q := fun H locs ls hP hD hS hl => by
  have hR := E.2.2.2.2.2.2.2.2.2.2
  obtain ⟨q, hq⟩ := pW_get (jcy C) X (jG C) M hL
  rw [pcell_o (jcy C) (jG C) M hK (List.getElem?_eq_some_iff.mp hcl).1] at hq
  subst hst
  have hFc := jA_sub hD hS E.2.2.2.2.2.2.1
  refine jx_ok (A0 := jA C) (H0 := jH C) (vx_runV (As := As) (rest := rest) (n := n) (C := Cn) ⟨E.1, E.2.1, E.2.2.1, E.2.2.2.1, E.2.2.2.2.1⟩ (hM H.size) (cwV n E.2.2.2.2.1 hg hw hrm.1 hrm.2.1 hy ⟨by rw [hR]; exact hrm.2.2.1, by rw [hR]; exact hrm.2.2.2⟩) ⟨jPreX_blind, va_recv E.2.2.2.2.2.1 hP hcl hq, j_pre E hx hP hD hS⟩ rfl hn hl.1 rfl (lv_room hrest) hd ⟨by rw [hR]; exact hk.1, by rw [hR]; exact hk.2⟩) hS (fun q _ h => hFc q h) hFc (fun H1 locs1 hP1 hS1 => ?_)
  exact kk H1 locs1 ls hP1 (jD_addr hD (pW_addr rfl)) hS1 hl
theorem j_leave {H : Heap} {locs : List Loc} {ls : Array Slot} {q : Addr} {ce : Cell} {kc ks : Nat} (E : jE C cc nL Ts own ret rm) (hT : jT C) (hP : va_P (jD C) vwCl (pW (jcy C) X (jG C) M) H) (hD : va_D (jA C) (pW (jcy C) X (jG C) M)) (hS : va_S (jA C) (jH C) H locs) (hce : H[q]? = some ce) (hv : ce.vm = .none) (hcl : (js C).vm.findClass Ex = some ce.cls) (hc2 : kc ≤ mc2) (hs2 : ks ≤ ms2) :
    vx_W (jp C) (jl C) (je C) (jR C) (js C) (jm C) (ja C) (jb C) (jme C) (jc C) H locs kc ks (jZX C X M (.inr Ex) mc2 ms2) (F0 (jm C) pc ls rest) q := by
  have hS9 := hS
  rw [E.2.2.2.2.2.2.2.2.2.1] at hS9
  exact vx_out (fun x hx => (hT.1 x hx).elim) E.2.2.2.2.2.2.2.1 hce hv hcl (fun t ht ha => ⟨rfl, ⟨by rw [ht]; exact hP, va_K.moved ha E.2.2.2.2.2.1, hD⟩, hS9.F ht⟩) hS.2.2 hc2 hs2
theorem j_xS_out (E : jE C cc nL Ts own ret rm) (hT : jT C) (hM : jKX (jl C) y wsY rmY (jD C) (jcy C) X (jG C) M As (.inr Ex) mc ms)
    (hd : decode cc pc = .ok (.invokestatic index, 3)) (hg : GoodIn Ts (va_wsS own index y wsY)) (hw : wsY = Cond.code y bytes maxL retY :: wsY') (hy : y.cls ≠ "java/lang/invoke/MethodHandle" ∧ y.cls ≠ "java/lang/invoke/VarHandle" ∧ (parseMethodDescriptor y.desc).map (fun d => d.parameters.length) = some n)
    (hrm : rmY.cells = mc ∧ rmY.slots = ms ∧ rmY.frames + 1 ≤ rm.frames ∧ 8 + (maxL + 11) + rmY.locals ≤ rm.locals) (hk : kc + mc ≤ rm.cells ∧ ks + ms ≤ rm.slots) (hn : As.length = n) (hst : st = As.reverse ++ rest) (hrest : (rest.map fun v => v.category).sum ≤ 8) (hc2 : kc + mc ≤ mc2) (hs2 : ks + ms ≤ ms2) : jW C nL pc lv st X M kc ks (jZX C X M (.inr Ex) mc2 ms2) := fun H locs ls hP hD hS hl => by
  have hR := E.2.2.2.2.2.2.2.2.2.2
  subst hst
  have hFc := jA_sub hD hS E.2.2.2.2.2.2.1
  refine jx_out (A0 := jA C) (H0 := jH C) (vx_runS (As := As) (rest := rest) (n := n) ⟨E.1, E.2.1, E.2.2.1, E.2.2.2.1, E.2.2.2.2.1⟩ (hM H.size) (va_cwS n E.2.2.2.2.1 hg hw hrm.1 hrm.2.1 hy ⟨by rw [hR]; exact hrm.2.2.1, by rw [hR]; exact hrm.2.2.2⟩) ⟨jPreX_blind, j_pre E hT.2.2 hP hD hS⟩ rfl hn hl.1 rfl (lv_room hrest) hd ⟨by rw [hR]; exact hk.1, by rw [hR]; exact hk.2⟩) hS (fun q _ h => hFc q h) hFc (fun H1 locs1 q ce hP1 hS1 h1 h2 h3 => ?_)
  exact j_leave E hT hP1 hD hS1 h1 h2 h3 hc2 hs2
theorem j_xV_out (E : jE C cc nL Ts own ret rm) (hT : jT C) {ci N b : Nat} {Cn : String} {T : u_T} (hM : jKX (jl C) y wsY rmY (jD C) (jcy C) X (jG C) M (.ref b :: As) (.inr Ex) mc ms)
    (hd : decode cc pc = .ok (.invokevirtual index, 3)) (hg : GoodIn Ts (wsV own index Cn y wsY)) (hw : wsY = Cond.code y bytes maxL retY :: wsY') (hy : y.cls = Cn ∧ y.cls ≠ "java/lang/invoke/MethodHandle" ∧ y.cls ≠ "java/lang/invoke/VarHandle" ∧ (parseMethodDescriptor y.desc).map (fun d => d.parameters.length) = some n)
    (hrm : rmY.cells = mc ∧ rmY.slots = ms ∧ rmY.frames + 1 ≤ rm.frames ∧ 8 + (maxL + 11) + rmY.locals ≤ rm.locals) (hk : kc + mc ≤ rm.cells ∧ ks + ms ≤ rm.slots) (hL : b ∈ (jG C).1) (hK : (jG C).2.1 b = ci) (hcl : vwCl[ci]? = some (Cn, T, N)) (hn : As.length = n) (hst : st = As.reverse ++ .ref b :: rest) (hrest : (rest.map fun v => v.category).sum ≤ 8) (hc2 : kc + mc ≤ mc2) (hs2 : ks + ms ≤ ms2) : jW C nL pc lv st X M kc ks (jZX C X M (.inr Ex) mc2 ms2) := fun H locs ls hP hD hS hl => by
  have hR := E.2.2.2.2.2.2.2.2.2.2
  obtain ⟨q, hq⟩ := pW_get (jcy C) X (jG C) M hL
  rw [pcell_o (jcy C) (jG C) M hK (List.getElem?_eq_some_iff.mp hcl).1] at hq
  subst hst
  have hFc := jA_sub hD hS E.2.2.2.2.2.2.1
  refine jx_out (A0 := jA C) (H0 := jH C) (vx_runV (As := As) (rest := rest) (n := n) (C := Cn) ⟨E.1, E.2.1, E.2.2.1, E.2.2.2.1, E.2.2.2.2.1⟩ (hM H.size) (cwV n E.2.2.2.2.1 hg hw hrm.1 hrm.2.1 hy ⟨by rw [hR]; exact hrm.2.2.1, by rw [hR]; exact hrm.2.2.2⟩) ⟨jPreX_blind, va_recv E.2.2.2.2.2.1 hP hcl hq, j_pre E hT.2.2 hP hD hS⟩ rfl hn hl.1 rfl (lv_room hrest) hd ⟨by rw [hR]; exact hk.1, by rw [hR]; exact hk.2⟩) hS (fun q _ h => hFc q h) hFc (fun H1 locs1 q ce hP1 hS1 h1 h2 h3 => ?_)
  exact j_leave E hT hP1 hD hS1 h1 h2 h3 hc2 hs2
end XC2
theorem j_o {C : jC} {nL pc kc ks mc ms : Nat} {lv : List (Nat × Value)} {st : List Value} {X : va_W} {M M0 : pM} {o o' : xOut} (h : o = o') (k : jW C nL pc lv st X M kc ks (jZX C X M0 o' mc ms)) : jW C nL pc lv st X M kc ks (jZX C X M0 o mc ms) := h ▸ k
section XC3
variable {C : jC} {cc : ByteArray} {nL : Nat} {Ts : List Cond} {own : String} {ret : Option FieldType} {rm : Room} {pc : Nat} {lv : List (Nat × Value)} {st rest : List Value} {X : va_W} {M M2 : pM} {kc ks mc ms mc2 ms2 : Nat} {Q : State → Prop} {y : MethodName} {bytes : ByteArray} {maxL n index : Nat} {retY : Option FieldType} {wsY wsY' : List Cond} {rmY : Room} {As : List Value} {v : Value} {Ex : String}
theorem j_xS_ok0 (E : jE C cc nL Ts own ret rm) (hx : xW (jA C) (js C) (js C).heap) (hM : jKX (jl C) y wsY rmY (jD C) (jcy C) X (jG C) M As (.inl (none, M2)) mc ms)
    (hd : decode cc pc = .ok (.invokestatic index, 3)) (hg : GoodIn Ts (va_wsS own index y wsY)) (hw : wsY = Cond.code y bytes maxL retY :: wsY') (hy : y.cls ≠ "java/lang/invoke/MethodHandle" ∧ y.cls ≠ "java/lang/invoke/VarHandle" ∧ (parseMethodDescriptor y.desc).map (fun d => d.parameters.length) = some n)
    (hrm : rmY.cells = mc ∧ rmY.slots = ms ∧ rmY.frames + 1 ≤ rm.frames ∧ 8 + (maxL + 11) + rmY.locals ≤ rm.locals) (hk : kc + mc ≤ rm.cells ∧ ks + ms ≤ rm.slots) (hn : As.length = n) (hst : st = As.reverse ++ rest) (hrest : (rest.map fun v => v.category).sum ≤ 8)
    (kk : jW C nL (pc + 3) lv rest X M2 (kc + mc) (ks + ms) Q) : jW C nL pc lv st X M kc ks Q := j_xS_ok E hx hM hd hg hw hy hrm hk hn hst hrest kk
theorem j_xV_ok0 (E : jE C cc nL Ts own ret rm) (hx : xW (jA C) (js C) (js C).heap) {ci N b : Nat} {Cn : String} {T : u_T} (hM : jKX (jl C) y wsY rmY (jD C) (jcy C) X (jG C) M (.ref b :: As) (.inl (none, M2)) mc ms)
    (hd : decode cc pc = .ok (.invokevirtual index, 3)) (hg : GoodIn Ts (wsV own index Cn y wsY)) (hw : wsY = Cond.code y bytes maxL retY :: wsY') (hy : y.cls = Cn ∧ y.cls ≠ "java/lang/invoke/MethodHandle" ∧ y.cls ≠ "java/lang/invoke/VarHandle" ∧ (parseMethodDescriptor y.desc).map (fun d => d.parameters.length) = some n)
    (hrm : rmY.cells = mc ∧ rmY.slots = ms ∧ rmY.frames + 1 ≤ rm.frames ∧ 8 + (maxL + 11) + rmY.locals ≤ rm.locals) (hk : kc + mc ≤ rm.cells ∧ ks + ms ≤ rm.slots) (hL : b ∈ (jG C).1) (hK : (jG C).2.1 b = ci) (hcl : vwCl[ci]? = some (Cn, T, N)) (hn : As.length = n) (hst : st = As.reverse ++ .ref b :: rest) (hrest : (rest.map fun v => v.category).sum ≤ 8)
    (kk : jW C nL (pc + 3) lv rest X M2 (kc + mc) (ks + ms) Q) : jW C nL pc lv st X M kc ks Q := j_xV_ok E hx hM hd hg hw hy hrm hk hL hK hcl hn hst hrest kk
theorem j_xV_ok1 (E : jE C cc nL Ts own ret rm) (hx : xW (jA C) (js C) (js C).heap) {ci N b : Nat} {Cn : String} {T : u_T} (hM : jKX (jl C) y wsY rmY (jD C) (jcy C) X (jG C) M (.ref b :: As) (.inl (some v, M2)) mc ms)
    (hd : decode cc pc = .ok (.invokevirtual index, 3)) (hg : GoodIn Ts (wsV own index Cn y wsY)) (hw : wsY = Cond.code y bytes maxL retY :: wsY') (hy : y.cls = Cn ∧ y.cls ≠ "java/lang/invoke/MethodHandle" ∧ y.cls ≠ "java/lang/invoke/VarHandle" ∧ (parseMethodDescriptor y.desc).map (fun d => d.parameters.length) = some n)
    (hrm : rmY.cells = mc ∧ rmY.slots = ms ∧ rmY.frames + 1 ≤ rm.frames ∧ 8 + (maxL + 11) + rmY.locals ≤ rm.locals) (hk : kc + mc ≤ rm.cells ∧ ks + ms ≤ rm.slots) (hL : b ∈ (jG C).1) (hK : (jG C).2.1 b = ci) (hcl : vwCl[ci]? = some (Cn, T, N)) (hn : As.length = n) (hst : st = As.reverse ++ .ref b :: rest) (hrest : (rest.map fun v => v.category).sum ≤ 8)
    (kk : jW C nL (pc + 3) lv (v :: rest) X M2 (kc + mc) (ks + ms) Q) : jW C nL pc lv st X M kc ks Q := j_xV_ok E hx hM hd hg hw hy hrm hk hL hK hcl hn hst hrest kk
end XC3
