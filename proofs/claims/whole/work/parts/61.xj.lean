/-! METHODS THAT THROW, over the pool. An outcome: '.inl (answer, memory)' or '.inr class': then nothing has changed. -/
abbrev xNSE : String := "java/util/NoSuchElementException"
abbrev xIAE : String := "java/lang/IllegalArgumentException"
abbrev xISE : String := "java/lang/IllegalStateException"
abbrev xOut : Type := (Option Value × pM) ⊕ String
/-- words that the tables decide, but that aren't kept as the others -/
def xNg : List Cond := [.declares (Bundle.initS "java/lang/RuntimeException"), .declares (Bundle.initS "java/lang/Exception"), .declares (Bundle.initS Bundle.tN), .castable xNSE xNSE, .castable xIAE xIAE, .castable xISE xISE]
def xNgs (U : State) : Prop := ∀ w ∈ xNg, va_Nw w U
theorem xNg_on : ∀ w ∈ xNg, w.onTables = true := by decide +kernel
theorem xNgs.warm {s U : State} (h : xNgs s) (hW : s.WarmedH U.vm) : xNgs U := by
  intro w hw
  have h1 := h w hw
  simp only [xNg, List.mem_cons, List.not_mem_nil, or_false] at hw
  rcases hw with rfl | rfl | rfl | rfl | rfl | rfl
  · exact va_Nw.warmD hW h1
  · exact va_Nw.warmD hW h1
  · exact va_Nw.warmD hW h1
  · exact va_Nw.warmC hW h1
  · exact va_Nw.warmC hW h1
  · exact va_Nw.warmC hW h1
theorem xNgs.same {s U : State} (h : xNgs s) (hv : s.vm = U.vm) : xNgs U := fun w hw => va_tabs (xNg_on w hw) hv (h w hw)
/-- what a throw needs of the start: two statics of Throwable, the five texts, those words -/
def xW (A : Nat → Prop) (U : State) (H : Heap) : Prop := vx_Zq Bundle.tN "UNASSIGNED_STACK" Bundle.steD A U H ∧ vx_Zq Bundle.tN "SUPPRESSED_SENTINEL" Bundle.listD A U H ∧ (∃ sa, vk_R RX6 95 "no room for one more rule" sa U) ∧ (∃ sa, vk_R RX6 189 "nothing is counted under this number" sa U) ∧ (∃ sa, vk_R RX6 194 "there is no such number" sa U) ∧ (∃ sa, vk_R RX6 197 "an argument is out of its range" sa U) ∧ (∃ sa, vk_R RX6 199 "the panel's level is too low" sa U) ∧ xNgs U
theorem xW.to {A B : Nat → Prop} {s U : State} {H0 H : Heap} {locs : List Loc} (h : xW A s H0) (hS : va_S A H0 H locs) (hAB : ∀ q, B q → A q) (hW : s.WarmedH U.vm) : xW B U H := by
  obtain ⟨h1, h2, ⟨a1, b1⟩, ⟨a2, b2⟩, ⟨a3, b3⟩, ⟨a4, b4⟩, ⟨a5, b5⟩, hng⟩ := h
  exact ⟨((h1.kept hS.2.1).narrow hAB).moved hW.alike, ((h2.kept hS.2.1).narrow hAB).moved hW.alike, ⟨a1, b1.warm hW⟩, ⟨a2, b2.warm hW⟩, ⟨a3, b3.warm hW⟩, ⟨a4, b4.warm hW⟩, ⟨a5, b5.warm hW⟩, hng.warm hW⟩
def jPreX (D : va_G) (cy : Nat → ClassId) (X : va_W) (G : pG) (M : pM) (sz : Nat) (U : State) : Prop := jPre D cy X G M sz U ∧ xW (va_A (pW cy X G M) sz) U U.heap
theorem jPreX_blind {D : va_G} {cy : Nat → ClassId} {X : va_W} {G : pG} {M : pM} {sz : Nat} {av : List Value} : FrameBlind (va_Pc av (jPreX D cy X G M sz)) := fun a U g mk q => by
  obtain ⟨q0, ⟨q1, qP, qK, qD⟩, h1, h2, ⟨a1, b1⟩, ⟨a2, b2⟩, ⟨a3, b3⟩, ⟨a4, b4⟩, ⟨a5, b5⟩, hng⟩ := q
  refine ⟨q0, ⟨q1, qP, va_K.moved (u := U) (U := U.calling g mk a) (Vm.Alike.refl U.vm) qK, qD⟩, ?_⟩
  exact ⟨vx_Zq.moved (u := U) (U := U.calling g mk a) (Vm.Alike.refl U.vm) h1, vx_Zq.moved (u := U) (U := U.calling g mk a) (Vm.Alike.refl U.vm) h2, ⟨a1, vk_R.same (u := U) (U := U.calling g mk a) rfl b1⟩, ⟨a2, vk_R.same (u := U) (U := U.calling g mk a) rfl b2⟩, ⟨a3, vk_R.same (u := U) (U := U.calling g mk a) rfl b3⟩, ⟨a4, vk_R.same (u := U) (U := U.calling g mk a) rfl b4⟩, ⟨a5, vk_R.same (u := U) (U := U.calling g mk a) rfl b5⟩, xNgs.same (s := U) (U := U.calling g mk a) hng rfl⟩
def jXQ (D : va_G) (cy : Nat → ClassId) (X : va_W) (G : pG) (A : Nat → Prop) (o : xOut) : Array Value → State → Outcome → State → Prop := match o with
  | .inl r => jQ D cy X G r.2 A r.1
  | .inr _ => fun _ _ _ _ => False
def jXX (D : va_G) (cy : Nat → ClassId) (X : va_W) (G : pG) (M : pM) (A : Nat → Prop) (o : xOut) : String → State → State → Prop := match o with
  | .inl _ => fun _ _ _ => False
  | .inr E => fun E' st t => E' = E ∧ (va_P D vwCl (pW cy X G M) t.heap ∧ va_K D vwCl (ptys cy) t ∧ va_D A (pW cy X G M)) ∧ va_F A st t
def jKX (l : Launch) (y : MethodName) (ws : List Cond) (rm : Room) (D : va_G) (cy : Nat → ClassId) (X : va_W) (G : pG) (M : pM) (av : List Value) (o : xOut) (mc ms : Nat) : Prop :=
  ∀ sz : Nat, vx_Met l y ws rm (va_Pc av (jPreX D cy X G M sz)) (jXQ D cy X G (va_A (pW cy X G M) sz) o) (jXX D cy X G M (va_A (pW cy X G M) sz) o) mc ms (va_A (pW cy X G M) sz)
def jZX (C : jC) (X : va_W) (M : pM) (o : xOut) (mc ms : Nat) : State → Prop := vx_MQ (jb C) (jXQ (jD C) (jcy C) X (jG C) (jA C) o) (jXX (jD C) (jcy C) X (jG C) M (jA C) o) (ja C) (js C) mc ms (jA C)
/-- a method without handlers, its launch without stack traces, and what a throw needs -/
def jT (C : jC) : Prop := (∀ x ∈ (jc C).exceptionTable.toList, False) ∧ (jl C).stackTraces = false ∧ xW (jA C) (js C) (js C).heap
theorem jKX_of {l : Launch} {y : MethodName} {ws ws' : List Cond} {rm : Room} {D : va_G} {cy : Nat → ClassId} {X : va_W} {G : pG} {M : pM} {av : List Value} {o : xOut} {mc ms : Nat} {cc : ByteArray} {maxL : Nat} {ret : Option FieldType} {own : String} (hl : l.stackTraces = false)
    (hy : plainName y.cls = true) (ho : y.cls = own) (hw : ws = Cond.code y cc maxL ret :: ws') (hav : (lg_sl av).length ≤ maxL)
    (body : ∀ C : jC, jE C cc maxL ws own ret rm → jT C → jl C = l → jD C = D → jcy C = cy → jG C = G → jW C maxL 0 (lv_args 0 av) [] X M 0 0 (jZX C X M o mc ms)) : jKX l y ws rm D cy X G M av o mc ms := by
  intro sz
  refine vx_ofW (cc := cc) (maxL := maxL) (ret := ret) hy hw ?_
  intro p e s m args below meth c s₁ B hml hno hv
  obtain ⟨rfl, ⟨hsz, hP, hK, hD0⟩, hxw⟩ := hv
  have hts := atoms_spec (ws := ws) B.pre
  have hown : s.vm.findClass own = some m.cls := by rw [← ho]; exact findClass_of_methodNamed B.named
  subst hsz
  have hD := hD0.self (sz := s.heap.size)
  have hA : ∀ q : Nat, s.heap.size ≤ q → va_A (pW cy X G M) s.heap.size q := fun q h => Or.inr h
  have hlv := lv_entry av (n := maxL) hav
  rw [lg_entry_eq]
  exact body ((p, l, e, (headSpec ws rm).room, s, m, av.toArray, below, meth, c), (D, cy, G, va_A (pW cy X G M) s.heap.size, s.heap)) ⟨B.exec, B.bytes, hml, hown, hts, hK, hA, B.notSynchronized, B.returns, rfl, rfl⟩ ⟨hno, hl, hxw⟩ rfl rfl rfl rfl s.heap [] _ hP hD va_S.rf hlv
section XJ
variable {C : jC} {cc : ByteArray} {nL : Nat} {Ts : List Cond} {own : String} {ret : Option FieldType} {rm : Room} {pc : Nat} {lv : List (Nat × Value)} {st rest : List Value} {X : va_W} {M M0 M2 : pM} {kc ks mc ms mc2 ms2 : Nat} {Q : State → Prop}
theorem j_widen {k n : Nat} (h1 : kc ≤ k) (h2 : ks ≤ n) (kk : jW C nL pc lv st X M k n Q) : jW C nL pc lv st X M kc ks Q := fun H locs ls hP hD hS hl => W.widen h1 h2 (kk H locs ls hP hD hS hl)
/-- a return, where a throw would have been possible -/
theorem jX_ret {r : Option Value} (k : jW C nL pc lv st X M kc ks (jZ C X M2 r mc ms)) : jW C nL pc lv st X M kc ks (jZX C X M0 (.inl (r, M2)) mc ms) := fun H locs ls hP hD hS hl => vx_ret (k H locs ls hP hD hS hl)
theorem j_throw (E : jE C cc nL Ts own ret rm) (hT : jT C) {cls text : String} {names : List String} {ik is ic : Nat} (hcls : Bundle.fit cls = true) (hnames : ∀ n ∈ names, Bundle.fit n = true) (hk : Cond.classLink own ik cls ∈ Ts) (hini : Cond.initialized cls ∈ Ts) (hstr : ∃ sa, vk_R own is text sa (js C)) (hat : ∀ w ∈ (vx_atS own ic cls names).filter goodWord, w ∈ Ts) (hng : ∀ w ∈ (vx_atS own ic cls names).filter (fun w => !goodWord w), w ∈ xNg)
    (hgood : ∀ w ∈ Cond.classLink own ik cls :: Cond.initialized cls :: vx_atS own ic cls names, vx_ot w = true)
    (d0 : decode cc pc = .ok (.new ik, 3)) (d3 : decode cc (pc + 3) = .ok (.dup, 1)) (d4 : decode cc (pc + 4) = .ok (.ldc is, 2)) (d6 : decode cc (pc + 6) = .ok (.invokespecial ic, 3)) (d9 : decode cc (pc + 9) = .ok (.athrow, 1))
    (hf : names.length + 3 < rm.frames) (hlo : (st.map fun v => v.category).sum + (13 * (names.length + 1) + 43) ≤ rm.locals) (hc1 : kc + 1 ≤ rm.cells) (hs1 : ks + 6 ≤ rm.slots) (hc2 : kc + 1 ≤ mc) (hs2 : ks + 6 ≤ ms) : jW C nL pc lv st X M kc ks (jZX C X M (.inr cls) mc ms) := fun H locs ls hP hD hS hl => by
  have hR := E.2.2.2.2.2.2.2.2.2.2
  have hH := E.2.2.2.2.2.2.2.2.2.1
  have hS9 := hS
  rw [hH] at hS9
  obtain ⟨sa, hsa⟩ := hstr
  refine vx_throwS E.1 E.2.1 hT.2.1 E.2.2.2.1 hcls hnames (E.2.2.2.2.1 _ hk) (E.2.2.2.2.1 _ hini) hsa (vx_hat (fun w hw => E.2.2.2.2.1 _ (hat w hw)) hng (fun w hw => va_Nw.use (xNg_on w hw) (hT.2.2.2.2.2.2.2.2.2 w hw))) hgood hT.2.2.1 hT.2.2.2.1 hS9 (hl.1.trans E.2.2.1.symm) d0 d3 d4 d6 d9 (fun x hx => (hT.1 x hx).elim) (by rw [hR]; exact hf) (by rw [hR]; exact hlo) (by rw [hR]; exact hc1) (by rw [hR]; exact hs1) E.2.2.2.2.2.2.2.1 (fun t ha hz hq => ⟨rfl, ⟨?_, va_K.moved ha E.2.2.2.2.2.1, hD⟩, ?_⟩) hS.2.2 hc2 hs2
  · exact hP.kept (fun k q hk => hq q.1 (vx_lt hP hk))
  · exact ⟨Nat.le_trans hS9.1 hz, fun q h1 h2 => by rw [hq q (Nat.lt_of_lt_of_le h1 hS9.1)]; exact hS9.2.1 q h1 h2⟩
theorem j_throwX (E : jE C cc nL Ts own ret rm) (hT : jT C) {cls text : String} {names : List String} {ik is ic ix : Nat} {rx : ByteArray} (x0 : decode rx 0 = .ok (.aload_n 0, 1)) (x1 : decode rx 1 = .ok (.aload_n 1, 1)) (x2 : decode rx 2 = .ok (.invokespecial ix, 3)) (x5 : decode rx 5 = .ok (.return_, 1)) (hcls : Bundle.fit cls = true) (hnames : ∀ n ∈ names, Bundle.fit n = true) (hk : Cond.classLink own ik cls ∈ Ts) (hini : Cond.initialized cls ∈ Ts) (hstr : ∃ sa, vk_R own is text sa (js C)) (hat : ∀ w ∈ (vx_atSX own ic cls ix rx names).filter goodWord, w ∈ Ts) (hng : ∀ w ∈ (vx_atSX own ic cls ix rx names).filter (fun w => !goodWord w), w ∈ xNg)
    (hgood : ∀ w ∈ Cond.classLink own ik cls :: Cond.initialized cls :: vx_atSX own ic cls ix rx names, vx_ot w = true)
    (d0 : decode cc pc = .ok (.new ik, 3)) (d3 : decode cc (pc + 3) = .ok (.dup, 1)) (d4 : decode cc (pc + 4) = .ok (.ldc is, 2)) (d6 : decode cc (pc + 6) = .ok (.invokespecial ic, 3)) (d9 : decode cc (pc + 9) = .ok (.athrow, 1))
    (hf : names.length + 3 < rm.frames) (hlo : (st.map fun v => v.category).sum + (13 * (names.length + 1) + 43) ≤ rm.locals) (hc1 : kc + 1 ≤ rm.cells) (hs1 : ks + 6 ≤ rm.slots) (hc2 : kc + 1 ≤ mc) (hs2 : ks + 6 ≤ ms) : jW C nL pc lv st X M kc ks (jZX C X M (.inr cls) mc ms) := fun H locs ls hP hD hS hl => by
  have hR := E.2.2.2.2.2.2.2.2.2.2
  have hH := E.2.2.2.2.2.2.2.2.2.1
  have hS9 := hS
  rw [hH] at hS9
  obtain ⟨sa, hsa⟩ := hstr
  refine vx_throwSX E.1 E.2.1 hT.2.1 x0 x1 x2 x5 E.2.2.2.1 hcls hnames (E.2.2.2.2.1 _ hk) (E.2.2.2.2.1 _ hini) hsa (vx_hat (fun w hw => E.2.2.2.2.1 _ (hat w hw)) hng (fun w hw => va_Nw.use (xNg_on w hw) (hT.2.2.2.2.2.2.2.2.2 w hw))) hgood hT.2.2.1 hT.2.2.2.1 hS9 (hl.1.trans E.2.2.1.symm) d0 d3 d4 d6 d9 (fun x hx => (hT.1 x hx).elim) (by rw [hR]; exact hf) (by rw [hR]; exact hlo) (by rw [hR]; exact hc1) (by rw [hR]; exact hs1) E.2.2.2.2.2.2.2.1 (fun t ha hz hq => ⟨rfl, ⟨?_, va_K.moved ha E.2.2.2.2.2.1, hD⟩, ?_⟩) hS.2.2 hc2 hs2
  · exact hP.kept (fun k q hk => hq q.1 (vx_lt hP hk))
  · exact ⟨Nat.le_trans hS9.1 hz, fun q h1 h2 => by rw [hq q (Nat.lt_of_lt_of_le h1 hS9.1)]; exact hS9.2.1 q h1 h2⟩
end XJ
