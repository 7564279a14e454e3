/-! A throw with a text, of a class whose constructor calls the next one by an index given, in a launch without stack traces. The library has the two halves apart: Bundle.chainSX for such a chain, Stand.ctorMessageOffV for such a launch. vn_ready gathers what the second asks, out of the words; vn_throw joins them. vx_throwSX is the printed vx_throwS, turned. -/
section VXN
/-- A field that objects of the class hold: its slot has its type, and the name is its own. -/
def vn_F (s : State) (c : ClassId) (k : Class) (f : Field) : Prop :=
  k.instanceTypes[f.slot]? = some f.type ∧ ∃ d, Jmm.declares? s.vm f.slot (c + 1) c = some d ∧ d.2.name = f.name

theorem vn_apart {s : State} {c : ClassId} {k : Class} {f g : Field} {n o : String} (hf : vn_F s c k f) (hg : vn_F s c k g) (h1 : f.name = n) (h2 : g.name = o) (h : (n == o) = false) : f.slot ≠ g.slot := by
  obtain ⟨-, x, a1, a2⟩ := hf
  obtain ⟨-, y, b1, b2⟩ := hg
  refine Cond.laysApart a1 b1 a2 b2 fun h3 => ?_
  rw [h1, h2] at h3
  rw [h3] at h
  simp at h

/-- A reference that a fresh object holds is null, and stays so where three other slots are written. -/
theorem vn_null {s : State} {c : ClassId} {k : Class} {b x y z : Field} {o : String} (hb : vn_F s c k b) (ht : b.type = .object o) (hx : b.slot ≠ x.slot) (hy : b.slot ≠ y.slot) (hz : b.slot ≠ z.slot) (vx vy vz : Value) (t : ThreadId) :
    (((((freshCell c k).setSlot x.slot vx).setSlot y.slot vy).setSlot z.slot vz).withEntry t).slots[b.slot]? = some .null := by
  have h0 : (freshCell c k).slots[b.slot]? = some .null := (fresh_default hb.1).trans (by rw [ht]; rfl)
  show ((((freshCell c k).slots.setIfInBounds x.slot vx).setIfInBounds y.slot vy).setIfInBounds z.slot vz)[b.slot]? = some .null
  rw [Array.getElem?_setIfInBounds_ne hz.symm, Array.getElem?_setIfInBounds_ne hy.symm, Array.getElem?_setIfInBounds_ne hx.symm]
  exact h0

/-- A class that says it selects Throwable's own method does so under every launch. -/
theorem vn_sel {l : Launch} {e : Env} {s : State} {args : Array Value} (hA : l.admits e) {cls : String} {c : ClassId} (hc : s.vm.findClass cls = some c) {t : MethodName} {r : MethodId} (hr : s.methodNamed? t = some r)
    (ht : t.cls ≠ "java/lang/invoke/MethodHandle" ∧ t.cls ≠ "java/lang/invoke/VarHandle") (hw : (Cond.selects cls t t).holds args s none s [] = true) : selectMethod e.platform s.vm c r = .method r := by
  obtain ⟨c', r', m', h1, h2, h3, h4, -⟩ := Cond.selects_spec hw
  rw [hc] at h1
  rw [State.methodFound?_of_named hr ht] at h2
  rw [hr] at h3
  cases h1
  cases h2
  cases h3
  exact (Launch.admits_selectMethod hA s.vm c r).trans h4

/-- What a state holds ready for the constructor of a thing that is thrown with a text. -/
def vn_K (pl : Platform) (s : State) (c : ClassId) (k : Class) (T : ThrowableC) (Z : Init0T) (M : MsgC) (Ps : List PassC) (cS : Cell) (u0 sen : RefV) : Prop :=
  (T.Links pl s ∧ Z.LaidS T.toThrowableT ∧ M.Links T pl s) ∧
  ((∀ P, P ∈ Ps → P.LinksS pl s) ∧ PassesOn (Z.m T.toThrowableT) (Ps.map (·.toPassT))) ∧
  (selectMethod pl s.vm c T.fill0 = .method T.fill0 ∧ selectMethod pl s.vm c T.fill = .method T.fill) ∧
  (s.heap[T.aS]? = some cS ∧ cS.vm.isStatics = true ∧ cS.slots[T.fUnassigned.slot]? = some u0.v ∧ cS.slots[T.fSentinel.slot]? = some sen.v) ∧
  ((∀ a : Addr, Takes s (freshCell c k) T.fCause (.ref a)) ∧ Takes s (freshCell c k) T.fStack u0.v ∧ Takes s (freshCell c k) T.fSupp sen.v ∧ ∀ v : RefV, Takes s (freshCell c k) T.fMsg v.v) ∧
  T.codeObj.maxLocals = 1 ∧
  ∀ (a : Addr) (t : ThreadId), SkipFacts T pl s (fun u => u) u0 ((preparedCellV T.toThrowableT (freshCell c k) a u0 sen).withEntry t)

set_option maxHeartbeats 1000000 in
theorem vn_ready {l : Launch} {e : Env} {s : State} {args : Array Value} (hA : l.admits e) {own cls : String} {names : List String} {ic ix : Nat} {rx : ByteArray} (x0 : decode rx 0 = .ok (.aload_n 0, 1)) (x1 : decode rx 1 = .ok (.aload_n 1, 1)) (x2 : decode rx 2 = .ok (.invokespecial ix, 3)) (x5 : decode rx 5 = .ok (.return_, 1))
    (hcls : Bundle.fit cls = true) (hnames : ∀ n ∈ names, Bundle.fit n = true) (h : ∀ w ∈ Bundle.ownAtomsX own ic cls ix rx names, w.before args s = true) {c : ClassId} {k : Class} (hc : s.vm.findClass cls = some c) (hk : s.vm.classes[c]? = some k) :
    ∃ (T : ThrowableC) (Z : Init0T) (M : MsgC) (P : PassC) (Ps : List PassC) (cS : Cell) (u0 sen : RefV), s.methodNamed? (Bundle.initS cls) = some P.m ∧ Ps.length = names.length ∧ vn_K e.platform s c k T Z M (P :: Ps) cS u0 sen := by
  have hp : e.platform.magicAccessors = ({} : Platform).magicAccessors := by rw [hA.platform]
  simp only [Bundle.ownAtomsX, List.forall_mem_append, List.forall_mem_cons] at h
  obtain ⟨⟨⟨hT, hS⟩, hch⟩, -, hin, -, w0, wF, lC, lS, lP, lM, wU, wN, fB, lT, lB, -⟩ := h
  obtain ⟨T, Z', LT, -, Y⟩ := ThrowableC.of_atoms (args := args) (pl := e.platform) (by rw [hA.platform]) (by rw [hA.platform]) hp hT
  obtain ⟨Z, M, LZ, LM, hZ⟩ := Init0T.ofS_atoms (args := args) hp LT Y hS
  obtain ⟨P, Ps, hlen, q1, q2, hP, q3, q4⟩ := Bundle.chainSX (args := args) hp hZ x0 x1 x2 x5 names cls hcls hnames hch
  obtain ⟨c', k', hc', hk', hord, -⟩ := Cond.instantiable_spec hin
  rw [hc] at hc'
  cases hc'
  rw [hk] at hk'
  cases hk'
  obtain ⟨jM, fM⟩ := Y.msg
  obtain ⟨ci, i, b, b1, b2, b3, b4, -, bn, bt, bf⟩ := Cond.ownField (t := .object "java/lang/Object") Y.found LT.cls (by decide +kernel) fB lT e.platform hp
  have vC : vn_F s c k T.fCause := Cond.laysAt hc hk Y.cause lC
  have vS : vn_F s c k T.fStack := Cond.laysAt hc hk Y.stack lS
  have vP : vn_F s c k T.fSupp := Cond.laysAt hc hk Y.supp lP
  have vM : vn_F s c k T.fMsg := Cond.laysAt hc hk fM lM
  have vB : vn_F s c k b := Cond.laysAt hc hk bf lB
  obtain ⟨cS, hcS, hst⟩ := Y.statics
  obtain ⟨u0, hu⟩ := Cond.staticRefV Y.unassigned LT.unassignedStatic LT.statics hcS hst wU
  obtain ⟨sen, hn⟩ := Cond.staticRefV Y.sentinel LT.sentinelStatic LT.statics hcS hst wN
  have t1 : ∀ a : Addr, fits T.fCause.type (.ref a) = true := fun a => by rw [Y.causeType]; rfl
  have t2 : fits T.fStack.type u0.v = true := by rw [Y.stackType]; exact fits_refV_array _ u0
  have t3 : fits T.fSupp.type sen.v = true := by rw [Y.suppType]; exact fits_refV_object _ sen
  have t4 : ∀ v : RefV, fits T.fMsg.type v.v = true := fun v => by rw [Y.msgType]; exact fits_refV_object _ v
  refine ⟨T, Z, M, P, Ps, cS, u0, sen, hP, hlen, ⟨LT, LZ, LM⟩, ⟨List.forall_mem_cons.mpr ⟨q1, q2⟩, q3, q4⟩, ⟨vn_sel hA hc Y.fill0 (by decide) w0, vn_sel hA hc Y.fill (by decide) wF⟩, ⟨hcS, hst, hu, hn⟩,
    ⟨fun a => Takes.of_laid hk hord vC.1 (t1 a), Takes.of_laid hk hord vS.1 t2, Takes.of_laid hk hord vP.1 t3, fun v => Takes.of_laid hk hord vM.1 (t4 v)⟩, Y.objLocals, fun a t => ⟨⟨ci, i, b⟩, ⟨b1, b2, b3, b4⟩, ?_, fun _ _ => rfl⟩⟩
  exact vn_null vB bt (vn_apart vB vC bn Y.causeName rfl) (vn_apart vB vS bn Y.stackName rfl) (vn_apart vB vP bn Y.suppName rfl) _ _ _ t

theorem vn_first (cls : String) (ix : Nat) (rx : ByteArray) (names : List String) : Cond.instanceMethod (Bundle.initS cls) ∈ Bundle.chainSAtomsX cls ix rx names ∧ Cond.code (Bundle.initS cls) rx 2 none ∈ Bundle.chainSAtomsX cls ix rx names := by
  cases names <;> simp [Bundle.chainSAtomsX, Bundle.passSAtoms]

set_option maxHeartbeats 1000000 in
/-- From the call of the constructor to the throw: the fresh thing at 'a', the text at 'sa'. -/
theorem vn_throw {p : Program} {l : Launch} {e : Env} {R : Room} {s : State} {m : MethodId} {args : Array Value} {below : List Frame} {meth : Method} {c : Code} {W : State} {cells slots : Nat} (X : Stand p l e R s m args below meth c W [] cells slots) (hexec : p.tables.exec = Jvm.exec) (htr : e.platform.stackTraces = false)
    {ix : Nat} {rx : ByteArray} (x0 : decode rx 0 = .ok (.aload_n 0, 1)) (x1 : decode rx 1 = .ok (.aload_n 1, 1)) (x2 : decode rx 2 = .ok (.invokespecial ix, 3)) (x5 : decode rx 5 = .ok (.return_, 1)) {own cls : String} {names : List String} {ic : Nat}
    (hown : s.vm.findClass own = some m.cls) (hcls : Bundle.fit cls = true) (hnames : ∀ n ∈ names, Bundle.fit n = true) (h : ∀ w ∈ Bundle.ownAtomsX own ic cls ix rx names, w.before args s = true)
    {a sa : Addr} {cX : ClassId} {kX : Class} (hfX : s.vm.findClass cls = some cX) (hkX : s.vm.classes[cX]? = some kX) (ha : W.heap[a]? = some (freshCell cX kX)) (hnew : s.heap.size ≤ a)
    {pc : Nat} {ls : Array Slot} {rest : List Value} (hls : ls.size = c.maxLocals) (dc : decode c.code pc = .ok (.invokespecial ic, 3)) (dt : decode c.code (pc + 3) = .ok (.athrow, 1)) (hout : ∀ x ∈ c.exceptionTable.toList, covers x (pc + 3) = false)
    (hRf : names.length + 3 < R.frames) (hRl : (rest.map fun v => v.category).sum + (13 * (names.length + 1) + 43) ≤ R.locals) (hlocks : meth.locks = false) :
    ∃ (U : State) (ce : Cell), Steps p.tables e below (W.setTop (F0 m pc ls (.ref sa :: .ref a :: .ref a :: rest))) U ∧ U.status = .running ∧ Ended U below (.threw a) ∧ s.WarmedH U.vm ∧ s.sameButNew ({ U with vm := s.vm } : State) [] cells slots ∧
      U.heap[a]? = some ce ∧ s.vm.findClass cls = some ce.cls ∧ ce.vm = .none := by
  obtain ⟨T, Z, M, P, Ps, cS0, u0, sen, hP, hlen, ⟨LT, LZ, LM⟩, ⟨LP, hon⟩, ⟨s0, sF⟩, ⟨hcS0, hst, hu, hn⟩, ⟨tC, tS, tP, tM⟩, hol, hskip⟩ := vn_ready X.admits x0 x1 x2 x5 hcls hnames h hfX hkX
  have hp : e.platform.magicAccessors = ({} : Platform).magicAccessors := by rw [X.admits.platform]
  obtain ⟨f1, f2⟩ := vn_first cls ix rx names
  simp only [Bundle.ownAtomsX, List.forall_mem_append, List.forall_mem_cons] at h
  obtain ⟨⟨-, hch⟩, hml, -⟩ := h
  obtain ⟨cS, hcS, e2, -, e4⟩ := X.same.2.2.2.2.2 T.aS cS0 hcS0
  have hvm : cS.vm = cS0.vm := (congrArg Cell.vm e2).trans rfl
  have hsl : ∀ i : Nat, cS.slots[i]? = cS0.slots[i]? := fun i => e4 i List.not_mem_nil
  have hkn : cS.vm ≠ .unknown := fun hx => by
    rw [← hvm, hx] at hst
    cases hst
  have hne : T.aS ≠ a := fun hx => Nat.not_lt.mpr hnew (hx ▸ (Array.getElem?_eq_some_iff.mp hcS0).1)
  obtain ⟨tm, -, -, -, vm₁, htm, -, -, -, -, -, -, -, hW, go⟩ := Steps.initColdS (tb := p.tables) (e := e) (below := below) (s := s) (U := W) X.here hexec X.warmed hp hown (t := Bundle.initS cls) rfl rfl (Bundle.fit_spec hcls).2 hml (hch _ f1) (hch _ f2)
    (f := F0 m pc ls (.ref sa :: .ref a :: .ref a :: rest)) rfl (a := a) (msg := .ref sa) (rest := .ref a :: rest) rfl dc
  rw [hP] at htm
  cases htm
  have hcat : ((Value.ref a :: rest).map fun v => v.category).sum = 1 + (rest.map fun v => v.category).sum := rfl
  have hmon : (F0 m pc ls (.ref a :: rest)).monitorRoom = 0 := rfl
  obtain ⟨vm₂, X2, run⟩ := (X.noted hW).ctorMessageOffV hexec (g := F0 m pc ls (.ref a :: rest)) rfl hls T LT Z LZ M LM (P :: Ps) LP hon (u0 := u0) (sen := sen) (self := a) (msg := .ref sa) rfl (cell := freshCell cX kX) (cellS := cS) ha (fun _ hx => nomatch hx) (fun hx => nomatch hx) rfl rfl s0 sF
    hcS hne hkn ((hsl _).trans hu) ((hsl _).trans hn) (tC a) tS tP (tM ⟨.ref sa, rfl⟩) hol (hskip a _) htr [] dc (by rw [List.length_cons, hlen]; omega) (by rw [List.length_cons, hlen, hmon, hcat]; omega)
  obtain ⟨r1, r2, r3, r4, r5⟩ := X2.athrowLeaves hexec (g := F0 m (pc + 3) ls (.ref a :: rest)) rfl rfl rfl hout rfl dt hlocks
  refine ⟨_, plainBareV T.toThrowableT (freshCell cX kX) a u0 sen (.ref sa), go _ fun acts => ?_, r2, r3, r4, r5.weaken (fun z hz hlt => ?_) (Nat.le_refl _) (Nat.le_refl _), heapAt_setCell_self (s := (W.setVm vm₁).setVm vm₂) _ (Array.getElem?_eq_some_iff.mp ha).1, hfX, rfl⟩
  · rw [doInvoke_state]
    exact run _ r1
  · have hz' : z.base = a := by
      rw [List.nil_append] at hz
      simp only [List.mem_cons, List.not_mem_nil, or_false] at hz
      rcases hz with hz | hz | hz | hz | hz <;> rw [hz]
    exact absurd hlt (hz' ▸ Nat.not_lt.mpr hnew)
variable {p : Program} {l : Launch} {e : Env} {R : Room} {s : State} {m : MethodId} {args : Array Value} {below : List Frame} {meth : Method} {c : Code} {H : Heap} {locs : List Loc} {cells slots : Nat} {free : Addr → Prop} {ls : Array Slot} {rest : List Value}
variable {Qc : Array Value → State → Outcome → State → Prop} {XC : String → State → State → Prop}
theorem vx_throwSX {cc : ByteArray} {pc : Nat} (hexec : p.tables.exec = Jvm.exec) (hb : c.code = cc) (hl : l.stackTraces = false) {own cls text : String} {names : List String} {ik is ic ix mc ms sa : Nat} {rx : ByteArray} (x0 : decode rx 0 = .ok (.aload_n 0, 1)) (x1 : decode rx 1 = .ok (.aload_n 1, 1)) (x2 : decode rx 2 = .ok (.invokespecial ix, 3)) (x5 : decode rx 5 = .ok (.return_, 1)) {A : Nat → Prop}
    (hown : s.vm.findClass own = some m.cls) (hcls : Bundle.fit cls = true) (hnames : ∀ n ∈ names, Bundle.fit n = true)
    (hk : (Cond.classLink own ik cls).before args s = true) (hini : (Cond.initialized cls).before args s = true) (hstr : vk_R own is text sa s) (hat : ∀ w ∈ vx_atSX own ic cls ix rx names, w.before args s = true)
    (hgood : ∀ w ∈ Cond.classLink own ik cls :: Cond.initialized cls :: vx_atSX own ic cls ix rx names, vx_ot w = true)
    (hU : vx_Zq Bundle.tN "UNASSIGNED_STACK" Bundle.steD A s s.heap) (hN : vx_Zq Bundle.tN "SUPPRESSED_SENTINEL" Bundle.listD A s s.heap) (hS : va_S A s.heap H locs) (hsize : ls.size = c.maxLocals)
    (d0 : decode cc pc = .ok (.new ik, 3)) (d3 : decode cc (pc + 3) = .ok (.dup, 1)) (d4 : decode cc (pc + 4) = .ok (.ldc is, 2)) (d6 : decode cc (pc + 6) = .ok (.invokespecial ic, 3)) (d9 : decode cc (pc + 9) = .ok (.athrow, 1))
    (hout : ∀ x ∈ c.exceptionTable.toList, covers x (pc + 9) = false)
    (hRframes : names.length + 3 < R.frames) (hRlocals : (rest.map fun v => v.category).sum + (13 * (names.length + 1) + 43) ≤ R.locals) (hRcells : cells + 1 ≤ R.cells) (hRslots : slots + 6 ≤ R.slots) (hlocks : meth.locks = false)
    (hx : ∀ t : State, s.vm.Alike t.vm → H.size ≤ t.heap.size → (∀ q : Nat, q < H.size → t.heap[q]? = H[q]?) → XC cls s t)
    (hf : ∀ z ∈ locs, free z.base) (hc : cells + 1 ≤ mc) (hs : slots + 6 ≤ ms) :
    W p l e R s m args below meth c H locs cells slots (vx_MQ below Qc XC args s mc ms free) (F0 m pc ls rest) := by
  intro T hT X
  have htr : e.platform.stackTraces = false := (show e.platform.stackTraces = l.stackTraces by rw [X.admits.platform]).trans hl
  have Y := vx_rebase X (R' := { frames := R.frames, locals := R.locals, cells := 1, slots := 6 }) (Nat.le_refl _) (Nat.le_refl _) hRcells hRslots
  obtain ⟨s', hA⟩ : ∃ z, z = (T.setVm s.vm).setFrames (.invoking m args :: below) := ⟨_, rfl⟩
  rw [← hA] at Y
  have hvm : s'.vm = s.vm := by rw [hA]; rfl
  have hhp : s'.heap = H := by rw [hA]; exact hT
  have hW0 : s.WarmedH s'.vm := by rw [hvm]; exact State.WarmedH.refl s
  have hat' : ∀ w ∈ vx_atSX own ic cls ix rx names, w.before args s' = true := fun w hw => vx_ot_at hW0 hvm.symm (hgood w (List.mem_cons_of_mem _ (List.mem_cons_of_mem _ hw))) (hat w hw)
  have hk' : (Cond.classLink own ik cls).before args s' = true := vx_ot_at hW0 hvm.symm (hgood _ List.mem_cons_self) hk
  have hini' : (Cond.initialized cls).before args s' = true := vx_ot_at hW0 hvm.symm (hgood _ (List.mem_cons_of_mem _ List.mem_cons_self)) hini
  have hU' : vx_Zq Bundle.tN "UNASSIGNED_STACK" Bundle.steD A s' s'.heap := by rw [hhp]; exact vx_Zq.moved hW0.alike (hU.kept hS.2.1)
  have hN' : vx_Zq Bundle.tN "SUPPRESSED_SENTINEL" Bundle.listD A s' s'.heap := by rw [hhp]; exact vx_Zq.moved hW0.alike (hN.kept hS.2.1)
  have h : ∀ w ∈ Bundle.ownAtomsX own ic cls ix rx names, w.before args s' = true := vx_own hat' (vx_isRefq hU'.1) (vx_isRefq hN'.1) hU'.2.word hN'.2.word
  have hown' : s'.vm.findClass own = some m.cls := by rw [hvm]; exact hown
  have hins : (Cond.instantiable cls 6).before args s' = true := h _ (by simp [Bundle.ownAtomsX])
  obtain ⟨vm₁, cX, kX, hfX, hkX, -, -, X₁, st1⟩ := Y.newCold hexec (own := own) (C := cls) (index := ik) (n := 6) hown' hk' hins hini'
    (g := F0 m pc ls rest) rfl (by rw [hb]; exact d0) (Nat.le_refl _) (Nat.le_refl _)
  generalize hT1 : (T.setVm vm₁).pushCell { cls := cX, slots := kX.instanceTypes.map defaultValue, vm := .none } = T1 at X₁ st1
  have hcat : (Value.ref T.heap.size).category = 1 := rfl
  have hcellA : T1.heap[T.heap.size]? = some (freshCell cX kX) := by rw [← hT1]; exact State.heap_pushCell_size _ _
  have d3' : decode c.code (pc + 3) = .ok (.dup, 1) := by rw [hb]; exact d3
  have d4' : decode c.code (pc + 4) = .ok (.ldc is, 2) := by rw [hb]; exact d4
  have hstr' : vk_R own is text sa s' := vk_R.warm hW0 hstr
  obtain ⟨U, ce, hsteps, hrun, hend, hW, hsame, hce, hO⟩ := vn_throw X₁ hexec htr x0 x1 x2 x5 (own := own) (cls := cls) (names := names) (ic := ic) hown' hcls hnames h hfX hkX hcellA (by rw [hhp, hT]; exact Nat.le_refl _) (sa := sa)
    (pc := pc + 6) (ls := ls) (rest := rest) hsize (by rw [hb]; exact d6) (by rw [hb]; exact d9) hout hRframes hRlocals hlocks
  obtain ⟨f1, f2⟩ := vx_frame hsame
  rw [hhp] at f1 f2
  have hWs : s.WarmedH U.vm := State.WarmedH.trans hW0 hW
  have hcl : s.vm.findClass cls = some ce.cls := by
    have h9 := hO.1
    rw [hvm] at h9
    exact h9
  have hall : s.sameButNew ({ U with vm := s.vm } : State) locs mc ms := by
    subst hA
    obtain ⟨e1, e2⟩ := hsame
    rw [State.setFrames_setFrames] at e1
    have h2 : (T.setVm s.vm).sameButNew ({ U with vm := s.vm } : State) [] (0 + 1) (0 + 6) := ⟨e1, e2⟩
    have h3 := X.same.trans h2
    rw [List.append_nil] at h3
    exact h3.mono hc hs
  refine ⟨U, ?_, .threw T.heap.size, hrun, hend, Or.inr ⟨T.heap.size, rfl, cls, ce, locs, hx U hWs.alike f1 (fun q hq => f2 q hq (fun z hz => nomatch hz)), hce, hO.2, hcl, hWs, hall, hf⟩⟩
  refine st1 _ ?_
  show Steps p.tables e below (T1.setTop { method := m, pc := pc + 3, locals := ls, stack := .ref T.heap.size :: rest, locked := none }) _
  jvm_step X₁.here [X₁.here.top, hexec, d3', Value.category]
  exact X₁.ldcString hexec (own := own) (text := text) (index := is) (a := sa) hown' hstr'.1 hstr'.2
    (g := { method := m, pc := pc + 4, locals := ls, stack := .ref T.heap.size :: .ref T.heap.size :: rest, locked := none }) rfl d4' _ hsteps
end VXN
