/-! THE LAW'S OWN ROWS: the script, the two cells for answers (a long, a double), long comparison; methods with handlers. -/
section LR
variable {p : Program} {l : Launch} {e : Env} {R : Room} {s : State} {m : MethodId} {args : Array Value} {below : List Frame} {meth : Method} {c : Code} {H : Heap} {locs : List Loc} {cells slots : Nat} {Q : State → Prop} {cc : ByteArray} {pc : Nat} {ls : Array Slot} {rest : List Value}
def lCmp (x y : Int64) : Int32 := if x > y then 1 else if (x == y) = true then 0 else -1
theorem lCmp_0 {x y : Int64} : lCmp x y = 0 ↔ x = y := by
  unfold lCmp
  by_cases h : x > y
  · rw [if_pos h]
    refine ⟨fun e => absurd e (by decide), fun e => ?_⟩
    subst e
    exact (Int64.lt_irrefl h).elim
  · rw [if_neg h]
    by_cases h2 : x = y
    · simp [h2]
    · have : ¬ (x == y) = true := by simpa using h2
      rw [if_neg this]
      exact ⟨fun e => absurd e (by decide), fun e => absurd e h2⟩
theorem lv_lcmp (hexec : p.tables.exec = Jvm.exec) (hb : c.code = cc) {x y : Int64} (hdg : decode cc pc = .ok (.lcmp, 1))
    (k : W p l e R s m args below meth c H locs cells slots Q (F0 m (pc + 1) ls (.int (lCmp x y) :: rest))) : W p l e R s m args below meth c H locs cells slots Q (F0 m pc ls (.long y :: .long x :: rest)) := by
  intro T hT X
  obtain ⟨t, a, b⟩ := k T hT X
  refine ⟨t, ?_, b⟩
  unfold lCmp at a
  by_cases h1 : x > y
  · rw [if_pos h1] at a
    jvm_step X.here [X.here.top, hexec, hb, hdg, h1]
    exact a
  · rw [if_neg h1] at a
    by_cases h2 : (x == y) = true
    · rw [if_pos h2] at a
      have h3 : x = y := by simpa using h2
      jvm_step X.here [X.here.top, hexec, hb, hdg, h1, h2]
      rw [if_pos h3]
      exact a
    · rw [if_neg h2] at a
      have h3 : ¬ x = y := by simpa using h2
      jvm_step X.here [X.here.top, hexec, hb, hdg, h1, h2]
      rw [if_neg h3]
      exact a
end LR
/-- the law's two cells for answers -/
def lX (cy : Nat → ClassId) (h : Nat) (o : Nat → Int64) (v : Nat → UInt64) : va_W := [(h + 69, .inl (cy 7, 1, .inr (.inl o))), (h + 70, .inl (cy 8, 1, .inr (.inr (.inr (.inl v)))))]
section LJ
variable {C : jC} {cc : ByteArray} {nL : Nat} {Ts : List Cond} {own : String} {ret : Option FieldType} {rm : Room} {pc : Nat} {lv : List (Nat × Value)} {st : List Value} {X : va_W} {M : pM} {kc ks : Nat} {Q : State → Prop}
theorem j_lcmp (E : jE C cc nL Ts own ret rm) {x y : Int64} (hd : decode cc pc = .ok (.lcmp, 1)) (k : jW C nL (pc + 1) lv (.int (lCmp x y) :: st) X M kc ks Q) : jW C nL pc lv (.long y :: .long x :: st) X M kc ks Q := fun H locs ls hP hD hS hl => lv_lcmp E.1 E.2.1 hd (k H locs ls hP hD hS hl)
theorem j_lconst (E : jE C cc nL Ts own ret rm) {n : Fin 2} {v : Int64} (hd : decode cc pc = .ok (.lconst n, 1)) (hv : Int64.ofNat (n : Nat) = v) (k : jW C nL (pc + 1) lv (.long v :: st) X M kc ks Q) : jW C nL pc lv st X M kc ks Q := fun H locs ls hP hD hS hl => lv_lconst E.1 E.2.1 hd hv (k H locs ls hP hD hS hl)
theorem j_sld (E : jE C cc nL Ts own ret rm) {b L : Nat} {xs : Nat → Int32} (hX : va_X b L xs (js C) (jH C)) (hbl : b < (jH C).size) (hbA : ¬ jA C b) (hd : decode cc pc = .ok (.iaload, 1)) {j : Nat} {i : Int32} (hi : i = nI j) (hj : j < L) (hL : L < 2 ^ 31) (kk : jW C nL (pc + 1) lv (.int (xs j) :: st) X M kc ks Q) : jW C nL pc lv (.int i :: .ref b :: st) X M kc ks Q := fun H locs ls hP hD hS hl => by
  subst hi
  have h := kk H locs ls hP hD hS hl
  refine va_sld E.1 E.2.1 hX hbl hbA hS (vp_in_nI hj hL) hd ?_
  rw [nI_clamp (by omega)]
  exact h
theorem j_slen (E : jE C cc nL Ts own ret rm) {b L : Nat} {xs : Nat → Int32} (hX : va_X b L xs (js C) (jH C)) (hbl : b < (jH C).size) (hbA : ¬ jA C b) (hd : decode cc pc = .ok (.arraylength, 1)) (kk : jW C nL (pc + 1) lv (.int (nI L) :: st) X M kc ks Q) : jW C nL pc lv (.ref b :: st) X M kc ks Q := fun H locs ls hP hD hS hl => va_slen E.1 E.2.1 hX hbl hbA hS hd (kk H locs ls hP hD hS hl)
theorem j_lald (E : jE C cc nL Ts own ret rm) {h : Nat} {o : Nat → Int64} {v : Nat → UInt64} (hd : decode cc pc = .ok (.laload, 1)) (kk : jW C nL (pc + 1) lv (.long (o 0) :: st) (lX (jcy C) h o v) M kc ks Q) : jW C nL pc lv (.int 0 :: .ref (h + 69) :: st) (lX (jcy C) h o v) M kc ks Q := fun H locs ls hP hD hS hl =>
  va_lald (D := jD C) E.1 E.2.1 E.2.2.2.2.2.1 hP 0 7 rfl rfl (by unfold vp_in; decide) hd (kk H locs ls hP hD hS hl)
theorem j_dald (E : jE C cc nL Ts own ret rm) {h : Nat} {o : Nat → Int64} {v : Nat → UInt64} (hd : decode cc pc = .ok (.daload, 1)) (kk : jW C nL (pc + 1) lv (.double (v 0) :: st) (lX (jcy C) h o v) M kc ks Q) : jW C nL pc lv (.int 0 :: .ref (h + 70) :: st) (lX (jcy C) h o v) M kc ks Q := fun H locs ls hP hD hS hl =>
  va_dald (D := jD C) E.1 E.2.1 E.2.2.2.2.2.1 hP 1 8 rfl rfl (by unfold vp_in; decide) hd (kk H locs ls hP hD hS hl)
theorem j_last (E : jE C cc nL Ts own ret rm) {h : Nat} {o : Nat → Int64} {v : Nat → UInt64} {x : Int64} (hd : decode cc pc = .ok (.lastore, 1)) (kk : jW C nL (pc + 1) lv st (lX (jcy C) h (vp_updL o 0 x) v) M kc ks Q) : jW C nL pc lv (.long x :: .int 0 :: .ref (h + 69) :: st) (lX (jcy C) h o v) M kc ks Q := fun H locs ls hP hD hS hl =>
  va_last (D := jD C) E.1 E.2.1 E.2.2.2.2.2.1 hP hD hS 0 7 rfl rfl (by unfold vp_in; decide) hd (fun H1 locs1 hP1 hD1 hS1 => kk H1 locs1 ls hP1 hD1 hS1 hl)
theorem j_dast (E : jE C cc nL Ts own ret rm) {h : Nat} {o : Nat → Int64} {v : Nat → UInt64} {x : UInt64} (hd : decode cc pc = .ok (.dastore, 1)) (kk : jW C nL (pc + 1) lv st (lX (jcy C) h o (vf_upd v 0 x)) M kc ks Q) : jW C nL pc lv (.double x :: .int 0 :: .ref (h + 70) :: st) (lX (jcy C) h o v) M kc ks Q := fun H locs ls hP hD hS hl =>
  va_dast (D := jD C) E.1 E.2.1 E.2.2.2.2.2.1 hP hD hS 1 8 rfl rfl (by unfold vp_in; decide) hd (fun H1 locs1 hP1 hD1 hS1 => kk H1 locs1 ls hP1 hD1 hS1 hl)
end LJ
/-! methods with handlers -/
def xN3 (U : State) : Prop := va_Nc xIAE xNSE U ∧ va_Nc xISE xNSE U ∧ va_Nc xISE xIAE U
theorem xN3.moved {u U : State} (hvm : u.vm.Alike U.vm) (h : xN3 u) : xN3 U := ⟨h.1.moved hvm, h.2.1.moved hvm, h.2.2.moved hvm⟩
def jPreH (D : va_G) (cy : Nat → ClassId) (X : va_W) (G : pG) (M : pM) (sz : Nat) (U : State) : Prop := jPreX D cy X G M sz U ∧ xN3 U
theorem jPreH_blind {D : va_G} {cy : Nat → ClassId} {X : va_W} {G : pG} {M : pM} {sz : Nat} {av : List Value} : FrameBlind (va_Pc av (jPreH D cy X G M sz)) := fun a U g mk q => by
  obtain ⟨q0, q1, q2⟩ := q
  obtain ⟨r0, r1⟩ := jPreX_blind (D := D) (cy := cy) (X := X) (G := G) (M := M) (sz := sz) (av := av) a U g mk ⟨q0, q1⟩
  exact ⟨r0, r1, xN3.moved (u := U) (U := U.calling g mk a) (Vm.Alike.refl U.vm) q2⟩
def jKH (l : Launch) (y : MethodName) (ws : List Cond) (rm : Room) (D : va_G) (cy : Nat → ClassId) (X : va_W) (G : pG) (M : pM) (av : List Value) (r : Option Value) (X2 : va_W) (M2 : pM) (mc ms : Nat) : Prop :=
  ∀ sz : Nat, vx_Met l y ws rm (va_Pc av (jPreH D cy X G M sz)) (jQ D cy X2 G M2 (va_A (pW cy X G M) sz) r) (fun _ _ _ => False) mc ms (va_A (pW cy X G M) sz)
def jZH (C : jC) (X : va_W) (M : pM) (r : Option Value) (mc ms : Nat) : State → Prop := vx_MQ (jb C) (jQ (jD C) (jcy C) X (jG C) M (jA C) r) (fun _ _ _ => False) (ja C) (js C) mc ms (jA C)
/-- its table, the launch, what a throw needs -/
def jTH (C : jC) (hh : List (Nat × Nat × Nat × Nat)) : Prop := (jc C).exceptionTable.toList = tableOf hh ∧ (jl C).stackTraces = false ∧ xW (jA C) (js C) (js C).heap ∧ xN3 (js C)
theorem jKH_of {l : Launch} {y : MethodName} {ws ws' : List Cond} {rm : Room} {D : va_G} {cy : Nat → ClassId} {X X2 : va_W} {G : pG} {M M2 : pM} {av : List Value} {r : Option Value} {mc ms : Nat} {cc : ByteArray} {maxL : Nat} {ret : Option FieldType} {own : String} {hh : List (Nat × Nat × Nat × Nat)} (hl : l.stackTraces = false)
    (hy : plainName y.cls = true) (ho : y.cls = own) (hw : ws = Cond.codeWith y cc maxL ret hh :: ws') (hav : (lg_sl av).length ≤ maxL)
    (body : ∀ C : jC, jE C cc maxL ws own ret rm → jTH C hh → jl C = l → jD C = D → jcy C = cy → jG C = G → jW C maxL 0 (lv_args 0 av) [] X M 0 0 (jZH C X2 M2 r mc ms)) : jKH l y ws rm D cy X G M av r X2 M2 mc ms := by
  intro sz
  refine vx_ofWH (cc := cc) (maxL := maxL) (ret := ret) (hh := hh) hy hw ?_
  intro p e s m args below meth c s₁ B hml hv
  obtain ⟨rfl, ⟨⟨hsz, hP, hK, hD0⟩, hxw⟩, hn3⟩ := hv
  have hts := atoms_spec (ws := ws) B.pre
  have hown : s.vm.findClass own = some m.cls := by rw [← ho]; exact findClass_of_methodNamed B.named
  have htb : c.exceptionTable.toList = tableOf hh := vx_table (x := y) B (hts (Cond.codeWith y cc maxL ret hh) (by rw [hw]; exact List.mem_cons_self))
  subst hsz
  have hD := hD0.self (sz := s.heap.size)
  have hA : ∀ q : Nat, s.heap.size ≤ q → va_A (pW cy X G M) s.heap.size q := fun q h => Or.inr h
  have hlv := lv_entry av (n := maxL) hav
  rw [lg_entry_eq]
  exact body ((p, l, e, (headSpec ws rm).room, s, m, av.toArray, below, meth, c), (D, cy, G, va_A (pW cy X G M) s.heap.size, s.heap)) ⟨B.exec, B.bytes, hml, hown, hts, hK, hA, B.notSynchronized, B.returns, rfl, rfl⟩ ⟨htb, hl, hxw, hn3⟩ rfl rfl rfl rfl s.heap [] _ hP hD va_S.rf hlv
section LH
variable {C : jC} {cc : ByteArray} {nL : Nat} {Ts : List Cond} {own : String} {ret : Option FieldType} {rm : Room} {pc : Nat} {lv : List (Nat × Value)} {st rest : List Value} {X X2 : va_W} {M M2 : pM} {kc ks mc ms : Nat} {Q : State → Prop} {y : MethodName} {bytes : ByteArray} {maxL n index : Nat} {retY : Option FieldType} {wsY wsY' : List Cond} {rmY : Room} {As : List Value} {r : Option Value} {Ex : String} {hh : List (Nat × Nat × Nat × Nat)}
theorem jH_ret (k : jW C nL pc lv st X M kc ks (jZ C X2 M2 r mc ms)) : jW C nL pc lv st X M kc ks (jZH C X2 M2 r mc ms) := fun H locs ls hP hD hS hl => vx_ret (k H locs ls hP hD hS hl)
theorem jH_iret (E : jE C cc nL Ts own (some .int) rm) {v v2 : Int32} (hd : decode cc pc = .ok (.ireturn, 1)) (hv : v = v2) (hX : X = X2) (hM : M = M2) (h1 : kc ≤ mc) (h2 : ks ≤ ms) : jW C nL pc lv [.int v] X M kc ks (jZH C X2 M2 (some (.int v2)) mc ms) :=
  j_widen h1 h2 (jH_ret (j_iret E hd hv hX hM))
/-- a call whose throw a row of the table takes -/
theorem j_xV_catch (E : jE C cc nL Ts own ret rm) (hT : jTH C hh) {ci N b : Nat} {Cn : String} {T : u_T} (hM : jKX (jl C) y wsY rmY (jD C) (jcy C) X (jG C) M (.ref b :: As) (.inr Ex) mc ms)
    (hd : decode cc pc = .ok (.invokevirtual index, 3)) (hg : GoodIn Ts (wsV own index Cn y wsY)) (hw : wsY = Cond.code y bytes maxL retY :: wsY') (hy : y.cls = Cn ∧ y.cls ≠ "java/lang/invoke/MethodHandle" ∧ y.cls ≠ "java/lang/invoke/VarHandle" ∧ (parseMethodDescriptor y.desc).map (fun d => d.parameters.length) = some n)
    (hrm : rmY.cells = mc ∧ rmY.slots = ms ∧ rmY.frames + 1 ≤ rm.frames ∧ 8 + (maxL + 11) + rmY.locals ≤ rm.locals) (hk : kc + mc ≤ rm.cells ∧ ks + ms ≤ rm.slots) (hL : b ∈ (jG C).1) (hK : (jG C).2.1 b = ci) (hcl : vwCl[ci]? = some (Cn, T, N)) (hn : As.length = n) (hst : st = As.reverse ++ .ref b :: rest) (hrest : (rest.map fun v => v.category).sum ≤ 8)
    (pre : List ExceptionTableEntry) (x : ExceptionTableEntry) (suf : List ExceptionTableEntry) (hsplit : tableOf hh = pre ++ x :: suf) (hpass : ∀ z ∈ pre, z.catchType ≠ 0 ∧ ∃ nm : String, Cond.classLink own z.catchType nm ∈ Ts ∧ va_Nc Ex nm (js C)) (hx : covers x pc = true) (h0 : x.catchType ≠ 0) (hlink : Cond.classLink own x.catchType Ex ∈ Ts) (hcs : Cond.castable Ex Ex ∈ xNg) {tgt : Nat} (htg : x.handlerPc = tgt)
    (kk : ∀ q : Nat, jW C nL tgt lv [.ref q] X M (kc + mc) (ks + ms) Q) : jW C nL pc lv st X M kc ks Q := fun H locs ls hP hD hS hl => by
  have hR := E.2.2.2.2.2.2.2.2.2.2
  obtain ⟨q, hq⟩ := pW_get (jcy C) X (jG C) M hL
  rw [pcell_o (jcy C) (jG C) M hK (List.getElem?_eq_some_iff.mp hcl).1] at hq
  subst hst
  subst htg
  have hFc := jA_sub hD hS E.2.2.2.2.2.2.1
  refine jx_out (A0 := jA C) (H0 := jH C) (vx_runV (As := As) (rest := rest) (n := n) (C := Cn) ⟨E.1, E.2.1, E.2.2.1, E.2.2.2.1, E.2.2.2.2.1⟩ (hM H.size) (cwV n E.2.2.2.2.1 hg hw hrm.1 hrm.2.1 hy ⟨by rw [hR]; exact hrm.2.2.1, by rw [hR]; exact hrm.2.2.2⟩) ⟨jPreX_blind, va_recv E.2.2.2.2.2.1 hP hcl hq, j_pre E hT.2.2.1 hP hD hS⟩ rfl hn hl.1 rfl (lv_room hrest) hd ⟨by rw [hR]; exact hk.1, by rw [hR]; exact hk.2⟩) hS (fun q _ h => hFc q h) hFc (fun H1 locs1 q ce hP1 hS1 h1 h2 h3 => ?_)
  refine vx_catch (own := own) (name := Ex) (E := Ex) E.2.2.2.1 pre x suf (by rw [hT.1]; exact hsplit) (fun z hz => ?_) hx h0 (E.2.2.2.2.1 _ hlink) (va_Nw.use rfl (hT.2.2.1.2.2.2.2.2.2.2 _ hcs)) h1 h2 h3 (kk q H1 locs1 ls hP1 hD hS1 hl)
  obtain ⟨z0, nm, z1, z2⟩ := hpass z hz
  exact Or.inr ⟨z0, nm, E.2.2.2.2.1 _ z1, z2⟩
/-- a call of a method with handlers -/
theorem j_hS (E : jE C cc nL Ts own ret rm) (hx : xW (jA C) (js C) (js C).heap) (hn3 : xN3 (js C)) (hM : jKH (jl C) y wsY rmY (jD C) (jcy C) X (jG C) M As r X2 M2 mc ms) (hXX : X.map Prod.fst = X2.map Prod.fst)
    (hd : decode cc pc = .ok (.invokestatic index, 3)) (hg : GoodIn Ts (va_wsS own index y wsY)) (hw : wsY = Cond.codeWith y bytes maxL retY hh :: wsY') (hy : y.cls ≠ "java/lang/invoke/MethodHandle" ∧ y.cls ≠ "java/lang/invoke/VarHandle" ∧ (parseMethodDescriptor y.desc).map (fun d => d.parameters.length) = some n)
    (hrm : rmY.cells = mc ∧ rmY.slots = ms ∧ rmY.frames + 1 ≤ rm.frames ∧ 8 + (maxL + 11) + rmY.locals ≤ rm.locals) (hk : kc + mc ≤ rm.cells ∧ ks + ms ≤ rm.slots) (hn : As.length = n) (hst : st = As.reverse ++ rest) (hrest : (rest.map fun v => v.category).sum ≤ 8)
    (kk : jW C nL (pc + 3) lv (r.toList ++ rest) X2 M2 (kc + mc) (ks + ms) Q) : jW C nL pc lv st X M kc ks Q := fun H locs ls hP hD hS hl => by
  have hR := E.2.2.2.2.2.2.2.2.2.2
  subst hst
  have hFc := jA_sub hD hS E.2.2.2.2.2.2.1
  have hr := vx_runSX (p := jp C) (l := jl C) (e := je C) (R := jR C) (s := js C) (m := jm C) (args := ja C) (below := jb C) (meth := jme C) (c := jc C) (H := H) (locs := locs) (cells := kc) (slots := ks) (hh := hh) (As := As) (rest := rest) (n := n) (g := F0 (jm C) pc ls (As.reverse ++ rest)) ⟨E.1, E.2.1, E.2.2.1, E.2.2.2.1, E.2.2.2.2.1⟩ (hM H.size) (vx_cwSW n E.2.2.2.2.1 hg hw hrm.1 hrm.2.1 hy ⟨by rw [hR]; exact hrm.2.2.1, by rw [hR]; exact hrm.2.2.2⟩)
    ⟨jPreH_blind, fun U hU hW => ⟨rfl, (j_pre (As := As) E hx hP hD hS U hU hW).2, hn3.moved hW.alike⟩⟩ rfl hn hl.1 rfl (lv_room hrest) hd ⟨by rw [hR]; exact hk.1, by rw [hR]; exact hk.2⟩
  intro T hT X0
  rcases hr T hT X0 with ⟨v, st₀, t, T', L, h0, X', hL, e1, e2, ⟨⟨hv, hP1, hK, hD1⟩, hF⟩, stp⟩ | ⟨q, st₀, t, T', L, Ex, ce, h0, X', hL, e1, e2, hxf, hce, hcv, hcl, stp⟩
  · cases hv
    obtain ⟨k1, k2, k3⟩ := vx_keep h0 e1 hS (fun q _ h => hFc q h) hFc hL hF
    obtain ⟨t2, a1, b1⟩ := kk T'.heap (locs ++ L) ls (by rw [e1]; exact hP1) (jD_addr hD (pW_addr hXX)) k3 hl T' rfl X'
    exact ⟨t2, stp t2 a1, b1⟩
  · exact (hxf : False).elim
end LH
