/-! THE JUDGEMENT jW: the machine at pc with locals lv, operand stack st, world X and the pool (shape in C, memory M). C holds all that stays the same within one method. -/
abbrev jC : Type := (Program × Launch × Env × Room × State × MethodId × Array Value × List Frame × Method × Code) × (va_G × (Nat → ClassId) × pG × (Nat → Prop) × Heap)
abbrev jp (C : jC) : Program := C.1.1
abbrev jl (C : jC) : Launch := C.1.2.1
abbrev je (C : jC) : Env := C.1.2.2.1
abbrev jR (C : jC) : Room := C.1.2.2.2.1
abbrev js (C : jC) : State := C.1.2.2.2.2.1
abbrev jm (C : jC) : MethodId := C.1.2.2.2.2.2.1
abbrev ja (C : jC) : Array Value := C.1.2.2.2.2.2.2.1
abbrev jb (C : jC) : List Frame := C.1.2.2.2.2.2.2.2.1
abbrev jme (C : jC) : Method := C.1.2.2.2.2.2.2.2.2.1
abbrev jc (C : jC) : Code := C.1.2.2.2.2.2.2.2.2.2
abbrev jD (C : jC) : va_G := C.2.1
abbrev jcy (C : jC) : Nat → ClassId := C.2.2.1
abbrev jG (C : jC) : pG := C.2.2.2.1
abbrev jA (C : jC) : Nat → Prop := C.2.2.2.2.1
abbrev jH (C : jC) : Heap := C.2.2.2.2.2
def jE (C : jC) (cc : ByteArray) (nL : Nat) (Ts : List Cond) (own : String) (ret : Option FieldType) (rm : Room) : Prop :=
  (jp C).tables.exec = Jvm.exec ∧ (jc C).code = cc ∧ (jc C).maxLocals = nL ∧ (js C).vm.findClass own = some (jm C).cls ∧ (∀ w ∈ Ts, w.before (ja C) (js C) = true) ∧ va_K (jD C) vwCl (ptys (jcy C)) (js C) ∧ (∀ q, (jH C).size ≤ q → jA C q) ∧ (jme C).locks = false ∧ (jme C).sig.returnType = ret ∧ jH C = (js C).heap ∧ jR C = rm
def jW (C : jC) (nL pc : Nat) (lv : List (Nat × Value)) (st : List Value) (X : va_W) (M : pM) (kc ks : Nat) (Q : State → Prop) : Prop :=
  ∀ (H : Heap) (locs : List Loc) (ls : Array Slot), va_P (jD C) vwCl (pW (jcy C) X (jG C) M) H → va_D (jA C) (pW (jcy C) X (jG C) M) → va_S (jA C) (jH C) H locs → lv_has ls nL lv →
    W (jp C) (jl C) (je C) (jR C) (js C) (jm C) (ja C) (jb C) (jme C) (jc C) H locs kc ks Q (F0 (jm C) pc ls st)
theorem jl_in : ∀ {lv : List (Nat × Value)} {i : Nat} {v : Value}, lv.lookup i = some v → (i, v) ∈ lv
  | [], _, _, h => by simp at h
  | (j, u) :: t, i, v, h => by
    cases hb : (i == j) with
    | true =>
      simp [List.lookup, hb] at h
      have e : i = j := by simpa using hb
      subst e; subst h
      exact List.mem_cons_self
    | false =>
      simp [List.lookup, hb] at h
      exact List.mem_cons_of_mem _ (jl_in h)
def jset (lv : List (Nat × Value)) (i : Nat) (v : Value) : List (Nat × Value) := (i, v) :: lv.filter (fun q => !(q.1 == i) && !(q.1 + 1 == i && q.2.category == 2))
def jpick (lv : List (Nat × Value)) (is : List Nat) : List (Nat × Value) := is.filterMap (fun i => (lv.lookup i).map (fun v => (i, v)))
section J
variable {C : jC} {cc : ByteArray} {nL : Nat} {Ts : List Cond} {own : String} {ret : Option FieldType} {rm : Room} {pc : Nat} {lv : List (Nat × Value)} {st : List Value} {X : va_W} {M : pM} {kc ks : Nat} {Q : State → Prop}
theorem j_lv (is : List Nat) {lv' : List (Nat × Value)} (h : jpick lv is = lv') (k : jW C nL pc lv' st X M kc ks Q) : jW C nL pc lv st X M kc ks Q := fun H locs ls hP hD hS hl => k H locs ls hP hD hS ⟨hl.1, hl.2.1, fun q hq => by
  rw [← h] at hq
  obtain ⟨i, -, hi⟩ := List.mem_filterMap.mp hq
  cases hv : lv.lookup i with
  | none => rw [hv] at hi; cases hi
  | some v => rw [hv] at hi; cases hi; exact hl.2.2 _ (jl_in hv)⟩
theorem j_M {M' : pM} (h : M = M') (k : jW C nL pc lv st X M' kc ks Q) : jW C nL pc lv st X M kc ks Q := h ▸ k
theorem j_st {st' : List Value} (h : st = st') (k : jW C nL pc lv st' X M kc ks Q) : jW C nL pc lv st X M kc ks Q := h ▸ k
theorem j_iconst (E : jE C cc nL Ts own ret rm) {n : Int} {v : Int32} (hd : decode cc pc = .ok (.iconst n, 1)) (hv : Int32.ofInt n = v) (k : jW C nL (pc + 1) lv (.int v :: st) X M kc ks Q) : jW C nL pc lv (st) X M kc ks Q := fun H locs ls hP hD hS hl => lv_iconst E.1 E.2.1 hd hv (k H locs ls hP hD hS hl)
theorem j_bipush (E : jE C cc nL Ts own ret rm) {n : Int} {v : Int32} (hd : decode cc pc = .ok (.bipush n, 2)) (hv : (Int8.ofInt n).toInt32 = v) (k : jW C nL (pc + 2) lv (.int v :: st) X M kc ks Q) : jW C nL pc lv (st) X M kc ks Q := fun H locs ls hP hD hS hl => lv_bipush E.1 E.2.1 hd hv (k H locs ls hP hD hS hl)
theorem j_sipush (E : jE C cc nL Ts own ret rm) {n : Int} {v : Int32} (hd : decode cc pc = .ok (.sipush n, 3)) (hv : (Int16.ofInt n).toInt32 = v) (k : jW C nL (pc + 3) lv (.int v :: st) X M kc ks Q) : jW C nL pc lv (st) X M kc ks Q := fun H locs ls hP hD hS hl => lv_sipush E.1 E.2.1 hd hv (k H locs ls hP hD hS hl)
theorem j_iadd (E : jE C cc nL Ts own ret rm) {x y : Int32} (hd : decode cc pc = .ok (.iadd, 1)) (k : jW C nL (pc + 1) lv (.int (x + y) :: st) X M kc ks Q) : jW C nL pc lv (.int y :: .int x :: st) X M kc ks Q := fun H locs ls hP hD hS hl => lv_iadd E.1 E.2.1 hd (k H locs ls hP hD hS hl)
theorem j_isub (E : jE C cc nL Ts own ret rm) {x y : Int32} (hd : decode cc pc = .ok (.isub, 1)) (k : jW C nL (pc + 1) lv (.int (x - y) :: st) X M kc ks Q) : jW C nL pc lv (.int y :: .int x :: st) X M kc ks Q := fun H locs ls hP hD hS hl => lv_isub E.1 E.2.1 hd (k H locs ls hP hD hS hl)
theorem j_imul (E : jE C cc nL Ts own ret rm) {x y : Int32} (hd : decode cc pc = .ok (.imul, 1)) (k : jW C nL (pc + 1) lv (.int (x * y) :: st) X M kc ks Q) : jW C nL pc lv (.int y :: .int x :: st) X M kc ks Q := fun H locs ls hP hD hS hl => lv_imul E.1 E.2.1 hd (k H locs ls hP hD hS hl)
theorem j_iand (E : jE C cc nL Ts own ret rm) {x y : Int32} (hd : decode cc pc = .ok (.iand, 1)) (k : jW C nL (pc + 1) lv (.int (x &&& y) :: st) X M kc ks Q) : jW C nL pc lv (.int y :: .int x :: st) X M kc ks Q := fun H locs ls hP hD hS hl => lv_iand E.1 E.2.1 hd (k H locs ls hP hD hS hl)
theorem j_ior (E : jE C cc nL Ts own ret rm) {x y : Int32} (hd : decode cc pc = .ok (.ior, 1)) (k : jW C nL (pc + 1) lv (.int (x ||| y) :: st) X M kc ks Q) : jW C nL pc lv (.int y :: .int x :: st) X M kc ks Q := fun H locs ls hP hD hS hl => lv_ior E.1 E.2.1 hd (k H locs ls hP hD hS hl)
theorem j_ixor (E : jE C cc nL Ts own ret rm) {x y : Int32} (hd : decode cc pc = .ok (.ixor, 1)) (k : jW C nL (pc + 1) lv (.int (x ^^^ y) :: st) X M kc ks Q) : jW C nL pc lv (.int y :: .int x :: st) X M kc ks Q := fun H locs ls hP hD hS hl => lv_ixor E.1 E.2.1 hd (k H locs ls hP hD hS hl)
theorem j_ishl (E : jE C cc nL Ts own ret rm) {x y : Int32} (hd : decode cc pc = .ok (.ishl, 1)) (k : jW C nL (pc + 1) lv (.int (x <<< (y &&& 31)) :: st) X M kc ks Q) : jW C nL pc lv (.int y :: .int x :: st) X M kc ks Q := fun H locs ls hP hD hS hl => lv_ishl E.1 E.2.1 hd (k H locs ls hP hD hS hl)
theorem j_ishr (E : jE C cc nL Ts own ret rm) {x y : Int32} (hd : decode cc pc = .ok (.ishr, 1)) (k : jW C nL (pc + 1) lv (.int (x >>> (y &&& 31)) :: st) X M kc ks Q) : jW C nL pc lv (.int y :: .int x :: st) X M kc ks Q := fun H locs ls hP hD hS hl => lv_ishr E.1 E.2.1 hd (k H locs ls hP hD hS hl)
theorem j_fadd (E : jE C cc nL Ts own ret rm) {x y : UInt32} (hd : decode cc pc = .ok (.fadd, 1)) (hne : vf_n32 (FP.fadd x y)) (k : jW C nL (pc + 1) lv (.float (FP.fadd x y) :: st) X M kc ks Q) : jW C nL pc lv (.float y :: .float x :: st) X M kc ks Q := fun H locs ls hP hD hS hl => lv_fadd E.1 E.2.1 hd hne (k H locs ls hP hD hS hl)
theorem j_fsub (E : jE C cc nL Ts own ret rm) {x y : UInt32} (hd : decode cc pc = .ok (.fsub, 1)) (hne : vf_n32 (FP.fsub x y)) (k : jW C nL (pc + 1) lv (.float (FP.fsub x y) :: st) X M kc ks Q) : jW C nL pc lv (.float y :: .float x :: st) X M kc ks Q := fun H locs ls hP hD hS hl => lv_fsub E.1 E.2.1 hd hne (k H locs ls hP hD hS hl)
theorem j_fmul (E : jE C cc nL Ts own ret rm) {x y : UInt32} (hd : decode cc pc = .ok (.fmul, 1)) (hne : vf_n32 (FP.fmul x y)) (k : jW C nL (pc + 1) lv (.float (FP.fmul x y) :: st) X M kc ks Q) : jW C nL pc lv (.float y :: .float x :: st) X M kc ks Q := fun H locs ls hP hD hS hl => lv_fmul E.1 E.2.1 hd hne (k H locs ls hP hD hS hl)
theorem j_fcmp (E : jE C cc nL Ts own ret rm) {x y : UInt32} {op : CmpOp} (hd : decode cc pc = .ok (.fcmp op, 1)) (k : jW C nL (pc + 1) lv (.int (Op.cmpValue (FP.fcmp x y) op) :: st) X M kc ks Q) : jW C nL pc lv (.float y :: .float x :: st) X M kc ks Q := fun H locs ls hP hD hS hl => lv_fcmp E.1 E.2.1 hd (k H locs ls hP hD hS hl)
theorem j_dcmp (E : jE C cc nL Ts own ret rm) {x y : UInt64} {op : CmpOp} (hd : decode cc pc = .ok (.dcmp op, 1)) (k : jW C nL (pc + 1) lv (.int (Op.cmpValue (FP.dcmp x y) op) :: st) X M kc ks Q) : jW C nL pc lv (.double y :: .double x :: st) X M kc ks Q := fun H locs ls hP hD hS hl => lv_dcmp E.1 E.2.1 hd (k H locs ls hP hD hS hl)
theorem j_fconst0 (E : jE C cc nL Ts own ret rm) (hd : decode cc pc = .ok (.fconst 0, 1)) (k : jW C nL (pc + 1) lv (.float FP.fconst0 :: st) X M kc ks Q) : jW C nL pc lv (st) X M kc ks Q := fun H locs ls hP hD hS hl => lv_fconst0 E.1 E.2.1 hd (k H locs ls hP hD hS hl)
theorem j_fconst1 (E : jE C cc nL Ts own ret rm) (hd : decode cc pc = .ok (.fconst 1, 1)) (k : jW C nL (pc + 1) lv (.float FP.fconst1 :: st) X M kc ks Q) : jW C nL pc lv (st) X M kc ks Q := fun H locs ls hP hD hS hl => lv_fconst1 E.1 E.2.1 hd (k H locs ls hP hD hS hl)
theorem j_fconst2 (E : jE C cc nL Ts own ret rm) (hd : decode cc pc = .ok (.fconst 2, 1)) (k : jW C nL (pc + 1) lv (.float FP.fconst2 :: st) X M kc ks Q) : jW C nL pc lv (st) X M kc ks Q := fun H locs ls hP hD hS hl => lv_fconst2 E.1 E.2.1 hd (k H locs ls hP hD hS hl)
theorem j_i2f (E : jE C cc nL Ts own ret rm) {x : Int32} (hd : decode cc pc = .ok (.i2f, 1)) (k : jW C nL (pc + 1) lv (.float (FP.i2f x) :: st) X M kc ks Q) : jW C nL pc lv (.int x :: st) X M kc ks Q := fun H locs ls hP hD hS hl => lv_i2f E.1 E.2.1 hd (k H locs ls hP hD hS hl)
theorem j_f2d (E : jE C cc nL Ts own ret rm) {x : UInt32} (hd : decode cc pc = .ok (.f2d, 1)) (hne : vf_n64 (FP.f2d x)) (k : jW C nL (pc + 1) lv (.double (FP.f2d x) :: st) X M kc ks Q) : jW C nL pc lv (.float x :: st) X M kc ks Q := fun H locs ls hP hD hS hl => lv_f2d E.1 E.2.1 hd hne (k H locs ls hP hD hS hl)
theorem j_i2l (E : jE C cc nL Ts own ret rm) {x : Int32} (hd : decode cc pc = .ok (.i2l, 1)) (k : jW C nL (pc + 1) lv (.long x.toInt64 :: st) X M kc ks Q) : jW C nL pc lv (.int x :: st) X M kc ks Q := fun H locs ls hP hD hS hl => lv_i2l E.1 E.2.1 hd rfl (k H locs ls hP hD hS hl)
theorem j_i2c (E : jE C cc nL Ts own ret rm) {x v : Int32} (hd : decode cc pc = .ok (.i2c, 1)) (hv : (x.toUInt32 % 65536).toInt32 = v) (k : jW C nL (pc + 1) lv (.int v :: st) X M kc ks Q) : jW C nL pc lv (.int x :: st) X M kc ks Q := fun H locs ls hP hD hS hl => lv_i2c E.1 E.2.1 hd hv (k H locs ls hP hD hS hl)
theorem j_dup (E : jE C cc nL Ts own ret rm) {va : Value} (hd : decode cc pc = .ok (.dup, 1)) (hva : va.category = 1) (k : jW C nL (pc + 1) lv (va :: va :: st) X M kc ks Q) : jW C nL pc lv (va :: st) X M kc ks Q := fun H locs ls hP hD hS hl => lv_dup E.1 E.2.1 hd hva (k H locs ls hP hD hS hl)
theorem j_pop (E : jE C cc nL Ts own ret rm) {va : Value} (hd : decode cc pc = .ok (.pop, 1)) (hva : va.category = 1) (k : jW C nL (pc + 1) lv (st) X M kc ks Q) : jW C nL pc lv (va :: st) X M kc ks Q := fun H locs ls hP hD hS hl => lv_pop E.1 E.2.1 hd hva (k H locs ls hP hD hS hl)
theorem j_dup2_11 (E : jE C cc nL Ts own ret rm) {va vb : Value} (hd : decode cc pc = .ok (.dup2, 1)) (hva : va.category = 1) (hvb : vb.category = 1) (k : jW C nL (pc + 1) lv (va :: vb :: va :: vb :: st) X M kc ks Q) : jW C nL pc lv (va :: vb :: st) X M kc ks Q := fun H locs ls hP hD hS hl => lv_dup2_11 E.1 E.2.1 hd hva hvb (k H locs ls hP hD hS hl)
theorem j_iload_n (E : jE C cc nL Ts own ret rm) {k : Fin 4} {i : Nat} {x : Int32} (hd : decode cc pc = .ok (.iload_n k, 1)) (hi : (k : Nat) = i) (hv : lv.lookup i = some (.int x)) (kk : jW C nL (pc + 1) lv (.int x :: st) X M kc ks Q) : jW C nL pc lv st X M kc ks Q := fun H locs ls hP hD hS hl => lv_iload_n E.1 E.2.1 hd hi (hl.2.2 _ (jl_in hv)) (kk H locs ls hP hD hS hl)
theorem j_iload (E : jE C cc nL Ts own ret rm) {i : Nat} {x : Int32} (hd : decode cc pc = .ok (.iload i, 2)) (hv : lv.lookup i = some (.int x)) (kk : jW C nL (pc + 2) lv (.int x :: st) X M kc ks Q) : jW C nL pc lv st X M kc ks Q := fun H locs ls hP hD hS hl => lv_iload E.1 E.2.1 hd (hl.2.2 _ (jl_in hv)) (kk H locs ls hP hD hS hl)
theorem j_istore_n (E : jE C cc nL Ts own ret rm) {k : Fin 4} {i : Nat} {x : Int32} (hd : decode cc pc = .ok (.istore_n k, 1)) (hi : (k : Nat) = i) (hn : i < nL) (kk : jW C nL (pc + 1) (jset lv i (.int x)) st X M kc ks Q) : jW C nL pc lv (.int x :: st) X M kc ks Q := fun H locs ls hP hD hS hl => lv_istore_n E.1 E.2.1 hd hi hl hn rfl (fun ls hl => kk H locs ls hP hD hS hl)
theorem j_istore (E : jE C cc nL Ts own ret rm) {i : Nat} {x : Int32} (hd : decode cc pc = .ok (.istore i, 2)) (hn : i < nL) (kk : jW C nL (pc + 2) (jset lv i (.int x)) st X M kc ks Q) : jW C nL pc lv (.int x :: st) X M kc ks Q := fun H locs ls hP hD hS hl => lv_istore E.1 E.2.1 hd hl hn rfl (fun ls hl => kk H locs ls hP hD hS hl)
theorem j_aload_n (E : jE C cc nL Ts own ret rm) {k : Fin 4} {i : Nat} {x : Nat} (hd : decode cc pc = .ok (.aload_n k, 1)) (hi : (k : Nat) = i) (hv : lv.lookup i = some (.ref x)) (kk : jW C nL (pc + 1) lv (.ref x :: st) X M kc ks Q) : jW C nL pc lv st X M kc ks Q := fun H locs ls hP hD hS hl => lv_aload_n E.1 E.2.1 hd hi (hl.2.2 _ (jl_in hv)) (kk H locs ls hP hD hS hl)
theorem j_aload (E : jE C cc nL Ts own ret rm) {i : Nat} {x : Nat} (hd : decode cc pc = .ok (.aload i, 2)) (hv : lv.lookup i = some (.ref x)) (kk : jW C nL (pc + 2) lv (.ref x :: st) X M kc ks Q) : jW C nL pc lv st X M kc ks Q := fun H locs ls hP hD hS hl => lv_aload E.1 E.2.1 hd (hl.2.2 _ (jl_in hv)) (kk H locs ls hP hD hS hl)
theorem j_astore_n (E : jE C cc nL Ts own ret rm) {k : Fin 4} {i : Nat} {x : Nat} (hd : decode cc pc = .ok (.astore_n k, 1)) (hi : (k : Nat) = i) (hn : i < nL) (kk : jW C nL (pc + 1) (jset lv i (.ref x)) st X M kc ks Q) : jW C nL pc lv (.ref x :: st) X M kc ks Q := fun H locs ls hP hD hS hl => lv_astore_n E.1 E.2.1 hd hi hl hn rfl (fun ls hl => kk H locs ls hP hD hS hl)
theorem j_astore (E : jE C cc nL Ts own ret rm) {i : Nat} {x : Nat} (hd : decode cc pc = .ok (.astore i, 2)) (hn : i < nL) (kk : jW C nL (pc + 2) (jset lv i (.ref x)) st X M kc ks Q) : jW C nL pc lv (.ref x :: st) X M kc ks Q := fun H locs ls hP hD hS hl => lv_astore E.1 E.2.1 hd hl hn rfl (fun ls hl => kk H locs ls hP hD hS hl)
theorem j_fload_n (E : jE C cc nL Ts own ret rm) {k : Fin 4} {i : Nat} {x : UInt32} (hd : decode cc pc = .ok (.fload_n k, 1)) (hi : (k : Nat) = i) (hv : lv.lookup i = some (.float x)) (kk : jW C nL (pc + 1) lv (.float x :: st) X M kc ks Q) : jW C nL pc lv st X M kc ks Q := fun H locs ls hP hD hS hl => lv_fload_n E.1 E.2.1 hd hi (hl.2.2 _ (jl_in hv)) (kk H locs ls hP hD hS hl)
theorem j_fload (E : jE C cc nL Ts own ret rm) {i : Nat} {x : UInt32} (hd : decode cc pc = .ok (.fload i, 2)) (hv : lv.lookup i = some (.float x)) (kk : jW C nL (pc + 2) lv (.float x :: st) X M kc ks Q) : jW C nL pc lv st X M kc ks Q := fun H locs ls hP hD hS hl => lv_fload E.1 E.2.1 hd (hl.2.2 _ (jl_in hv)) (kk H locs ls hP hD hS hl)
theorem j_fstore_n (E : jE C cc nL Ts own ret rm) {k : Fin 4} {i : Nat} {x : UInt32} (hd : decode cc pc = .ok (.fstore_n k, 1)) (hi : (k : Nat) = i) (hn : i < nL) (kk : jW C nL (pc + 1) (jset lv i (.float x)) st X M kc ks Q) : jW C nL pc lv (.float x :: st) X M kc ks Q := fun H locs ls hP hD hS hl => lv_fstore_n E.1 E.2.1 hd hi hl hn rfl (fun ls hl => kk H locs ls hP hD hS hl)
theorem j_fstore (E : jE C cc nL Ts own ret rm) {i : Nat} {x : UInt32} (hd : decode cc pc = .ok (.fstore i, 2)) (hn : i < nL) (kk : jW C nL (pc + 2) (jset lv i (.float x)) st X M kc ks Q) : jW C nL pc lv (.float x :: st) X M kc ks Q := fun H locs ls hP hD hS hl => lv_fstore E.1 E.2.1 hd hl hn rfl (fun ls hl => kk H locs ls hP hD hS hl)
theorem j_iinc (E : jE C cc nL Ts own ret rm) {i : Nat} {n : Int} {x : Int32} (hd : decode cc pc = .ok (.iinc i n, 3)) (hv : lv.lookup i = some (.int x)) (hn : i < nL) (kk : jW C nL (pc + 3) (jset lv i (.int (x + Int32.ofInt n))) st X M kc ks Q) : jW C nL pc lv st X M kc ks Q := fun H locs ls hP hD hS hl => by
  obtain ⟨k, hk⟩ := List.mem_iff_getElem?.mp (jl_in hv)
  exact lv_iinc E.1 E.2.1 hd hl hk rfl hn rfl (fun ls hl => kk H locs ls hP hD hS hl)
theorem j_if_eq (E : jE C cc nL Ts own ret rm) {x : Int32} {off : Int} {tgt : Nat} (hd : decode cc pc = .ok (.ifCond .eq off, 3)) (ht : (pc : Int) + off = (tgt : Int)) (kt : x = 0 → jW C nL tgt lv st X M kc ks Q) (kf : ¬ x = 0 → jW C nL (pc + 3) lv st X M kc ks Q) : jW C nL pc lv (.int x :: st) X M kc ks Q := fun H locs ls hP hD hS hl => lv_if_eq E.1 E.2.1 hd ht (fun h => kt h H locs ls hP hD hS hl) (fun h => kf h H locs ls hP hD hS hl)
theorem j_if_ne (E : jE C cc nL Ts own ret rm) {x : Int32} {off : Int} {tgt : Nat} (hd : decode cc pc = .ok (.ifCond .ne off, 3)) (ht : (pc : Int) + off = (tgt : Int)) (kt : ¬ x = 0 → jW C nL tgt lv st X M kc ks Q) (kf : x = 0 → jW C nL (pc + 3) lv st X M kc ks Q) : jW C nL pc lv (.int x :: st) X M kc ks Q := fun H locs ls hP hD hS hl => lv_if_ne E.1 E.2.1 hd ht (fun h => kt h H locs ls hP hD hS hl) (fun h => kf h H locs ls hP hD hS hl)
theorem j_if_lt (E : jE C cc nL Ts own ret rm) {x : Int32} {off : Int} {tgt : Nat} (hd : decode cc pc = .ok (.ifCond .lt off, 3)) (ht : (pc : Int) + off = (tgt : Int)) (kt : x < 0 → jW C nL tgt lv st X M kc ks Q) (kf : ¬ x < 0 → jW C nL (pc + 3) lv st X M kc ks Q) : jW C nL pc lv (.int x :: st) X M kc ks Q := fun H locs ls hP hD hS hl => lv_if_lt E.1 E.2.1 hd ht (fun h => kt h H locs ls hP hD hS hl) (fun h => kf h H locs ls hP hD hS hl)
theorem j_if_ge (E : jE C cc nL Ts own ret rm) {x : Int32} {off : Int} {tgt : Nat} (hd : decode cc pc = .ok (.ifCond .ge off, 3)) (ht : (pc : Int) + off = (tgt : Int)) (kt : 0 ≤ x → jW C nL tgt lv st X M kc ks Q) (kf : ¬ 0 ≤ x → jW C nL (pc + 3) lv st X M kc ks Q) : jW C nL pc lv (.int x :: st) X M kc ks Q := fun H locs ls hP hD hS hl => lv_if_ge E.1 E.2.1 hd ht (fun h => kt h H locs ls hP hD hS hl) (fun h => kf h H locs ls hP hD hS hl)
theorem j_if_gt (E : jE C cc nL Ts own ret rm) {x : Int32} {off : Int} {tgt : Nat} (hd : decode cc pc = .ok (.ifCond .gt off, 3)) (ht : (pc : Int) + off = (tgt : Int)) (kt : 0 < x → jW C nL tgt lv st X M kc ks Q) (kf : ¬ 0 < x → jW C nL (pc + 3) lv st X M kc ks Q) : jW C nL pc lv (.int x :: st) X M kc ks Q := fun H locs ls hP hD hS hl => lv_if_gt E.1 E.2.1 hd ht (fun h => kt h H locs ls hP hD hS hl) (fun h => kf h H locs ls hP hD hS hl)
theorem j_if_le (E : jE C cc nL Ts own ret rm) {x : Int32} {off : Int} {tgt : Nat} (hd : decode cc pc = .ok (.ifCond .le off, 3)) (ht : (pc : Int) + off = (tgt : Int)) (kt : x ≤ 0 → jW C nL tgt lv st X M kc ks Q) (kf : ¬ x ≤ 0 → jW C nL (pc + 3) lv st X M kc ks Q) : jW C nL pc lv (.int x :: st) X M kc ks Q := fun H locs ls hP hD hS hl => lv_if_le E.1 E.2.1 hd ht (fun h => kt h H locs ls hP hD hS hl) (fun h => kf h H locs ls hP hD hS hl)
theorem j_icmp_eq (E : jE C cc nL Ts own ret rm) {x y : Int32} {off : Int} {tgt : Nat} (hd : decode cc pc = .ok (.if_icmp .eq off, 3)) (ht : (pc : Int) + off = (tgt : Int)) (kt : x = y → jW C nL tgt lv st X M kc ks Q) (kf : ¬ x = y → jW C nL (pc + 3) lv st X M kc ks Q) : jW C nL pc lv (.int y :: .int x :: st) X M kc ks Q := fun H locs ls hP hD hS hl => lv_icmp_eq E.1 E.2.1 hd ht (fun h => kt h H locs ls hP hD hS hl) (fun h => kf h H locs ls hP hD hS hl)
theorem j_icmp_ne (E : jE C cc nL Ts own ret rm) {x y : Int32} {off : Int} {tgt : Nat} (hd : decode cc pc = .ok (.if_icmp .ne off, 3)) (ht : (pc : Int) + off = (tgt : Int)) (kt : ¬ x = y → jW C nL tgt lv st X M kc ks Q) (kf : x = y → jW C nL (pc + 3) lv st X M kc ks Q) : jW C nL pc lv (.int y :: .int x :: st) X M kc ks Q := fun H locs ls hP hD hS hl => lv_icmp_ne E.1 E.2.1 hd ht (fun h => kt h H locs ls hP hD hS hl) (fun h => kf h H locs ls hP hD hS hl)
theorem j_icmp_lt (E : jE C cc nL Ts own ret rm) {x y : Int32} {off : Int} {tgt : Nat} (hd : decode cc pc = .ok (.if_icmp .lt off, 3)) (ht : (pc : Int) + off = (tgt : Int)) (kt : x < y → jW C nL tgt lv st X M kc ks Q) (kf : ¬ x < y → jW C nL (pc + 3) lv st X M kc ks Q) : jW C nL pc lv (.int y :: .int x :: st) X M kc ks Q := fun H locs ls hP hD hS hl => lv_icmp_lt E.1 E.2.1 hd ht (fun h => kt h H locs ls hP hD hS hl) (fun h => kf h H locs ls hP hD hS hl)
theorem j_icmp_ge (E : jE C cc nL Ts own ret rm) {x y : Int32} {off : Int} {tgt : Nat} (hd : decode cc pc = .ok (.if_icmp .ge off, 3)) (ht : (pc : Int) + off = (tgt : Int)) (kt : y ≤ x → jW C nL tgt lv st X M kc ks Q) (kf : ¬ y ≤ x → jW C nL (pc + 3) lv st X M kc ks Q) : jW C nL pc lv (.int y :: .int x :: st) X M kc ks Q := fun H locs ls hP hD hS hl => lv_icmp_ge E.1 E.2.1 hd ht (fun h => kt h H locs ls hP hD hS hl) (fun h => kf h H locs ls hP hD hS hl)
theorem j_icmp_gt (E : jE C cc nL Ts own ret rm) {x y : Int32} {off : Int} {tgt : Nat} (hd : decode cc pc = .ok (.if_icmp .gt off, 3)) (ht : (pc : Int) + off = (tgt : Int)) (kt : y < x → jW C nL tgt lv st X M kc ks Q) (kf : ¬ y < x → jW C nL (pc + 3) lv st X M kc ks Q) : jW C nL pc lv (.int y :: .int x :: st) X M kc ks Q := fun H locs ls hP hD hS hl => lv_icmp_gt E.1 E.2.1 hd ht (fun h => kt h H locs ls hP hD hS hl) (fun h => kf h H locs ls hP hD hS hl)
theorem j_icmp_le (E : jE C cc nL Ts own ret rm) {x y : Int32} {off : Int} {tgt : Nat} (hd : decode cc pc = .ok (.if_icmp .le off, 3)) (ht : (pc : Int) + off = (tgt : Int)) (kt : x ≤ y → jW C nL tgt lv st X M kc ks Q) (kf : ¬ x ≤ y → jW C nL (pc + 3) lv st X M kc ks Q) : jW C nL pc lv (.int y :: .int x :: st) X M kc ks Q := fun H locs ls hP hD hS hl => lv_icmp_le E.1 E.2.1 hd ht (fun h => kt h H locs ls hP hD hS hl) (fun h => kf h H locs ls hP hD hS hl)
theorem j_goto (E : jE C cc nL Ts own ret rm) {off : Int} {tgt : Nat} (hd : decode cc pc = .ok (.goto off, 3)) (ht : (pc : Int) + off = (tgt : Int)) (k : jW C nL tgt lv st X M kc ks Q) : jW C nL pc lv st X M kc ks Q := fun H locs ls hP hD hS hl => lv_goto E.1 E.2.1 hd ht (k H locs ls hP hD hS hl)
theorem j_ldcf (E : jE C cc nL Ts own ret rm) {index : Nat} {v : UInt32} (hc : Jvm.Cond.constantFloat own index v ∈ Ts) (hd : decode cc pc = .ok (.ldc index, 2)) (k : jW C nL (pc + 2) lv (.float v :: st) X M kc ks Q) : jW C nL pc lv st X M kc ks Q := fun H locs ls hP hD hS hl => lv_ldcf E.1 E.2.1 E.2.2.2.1 (E.2.2.2.2.1 _ hc) hd (k H locs ls hP hD hS hl)
theorem j_ldc (E : jE C cc nL Ts own ret rm) {index : Nat} {v : Int32} (hc : Jvm.Cond.constant own index v ∈ Ts) (hd : decode cc pc = .ok (.ldc index, 2)) (k : jW C nL (pc + 2) lv (.int v :: st) X M kc ks Q) : jW C nL pc lv st X M kc ks Q := fun H locs ls hP hD hS hl => lv_ldc E.1 E.2.1 E.2.2.2.1 (E.2.2.2.2.1 _ hc) hd (k H locs ls hP hD hS hl)
theorem j_tabIn (E : jE C cc nL Ts own ret rm) {dflt lo hi : Int} {offs : Array Int} {len : Nat} {x : Int32} {off : Int} {tgt : Nat} (hd : decode cc pc = .ok (.tableswitch dflt lo hi offs, len)) (h1 : ¬ x.toInt < lo) (h2 : ¬ hi < x.toInt) (ho : offs[(x.toInt - lo).toNat]? = some off) (ht : (pc : Int) + off = (tgt : Int)) (k : jW C nL tgt lv st X M kc ks Q) : jW C nL pc lv (.int x :: st) X M kc ks Q := fun H locs ls hP hD hS hl => lv_tableIn E.1 E.2.1 hd h1 h2 ho ht (k H locs ls hP hD hS hl)
theorem j_tabOut (E : jE C cc nL Ts own ret rm) {dflt lo hi : Int} {offs : Array Int} {len : Nat} {x : Int32} {tgt : Nat} (hd : decode cc pc = .ok (.tableswitch dflt lo hi offs, len)) (h : x.toInt < lo ∨ hi < x.toInt) (ht : (pc : Int) + dflt = (tgt : Int)) (k : jW C nL tgt lv st X M kc ks Q) : jW C nL pc lv (.int x :: st) X M kc ks Q := fun H locs ls hP hD hS hl => lv_tableOut E.1 E.2.1 hd h ht (k H locs ls hP hD hS hl)
theorem i_tab (x : Int32) (lo hi : Nat) (hh : hi < 2 ^ 31) : (x.toInt < (lo : Int) ∨ (hi : Int) < x.toInt) ∨ ∃ k : Nat, lo ≤ k ∧ k ≤ hi ∧ x = nI k := by
  by_cases h1 : x.toInt < (lo : Int)
  · exact Or.inl (Or.inl h1)
  · by_cases h2 : (hi : Int) < x.toInt
    · exact Or.inl (Or.inr h2)
    · refine Or.inr ⟨x.toInt.toNat, by omega, by omega, ?_⟩
      have h3 : ((x.toInt.toNat : Nat) : Int) = x.toInt := Int.toNat_of_nonneg (by omega)
      apply Int32.toInt_inj.mp
      rw [nI_toInt (by omega), h3]
theorem j_table (E : jE C cc nL Ts own ret rm) {dflt : Int} {lo hi : Nat} {offs : Array Int} {len : Nat} {x : Int32} {tgt : Nat} (hd : decode cc pc = .ok (.tableswitch dflt (lo : Int) (hi : Int) offs, len)) (hh : hi < 2 ^ 31) (ht : (pc : Int) + dflt = (tgt : Int)) (kout : (x.toInt < (lo : Int) ∨ (hi : Int) < x.toInt) → jW C nL tgt lv st X M kc ks Q) (kin : ∀ k : Nat, lo ≤ k → k ≤ hi → x = nI k → jW C nL pc lv (.int x :: st) X M kc ks Q) : jW C nL pc lv (.int x :: st) X M kc ks Q := by
  rcases i_tab x lo hi hh with h | ⟨k, h1, h2, h3⟩
  · exact j_tabOut E hd h ht (kout h)
  · exact kin k h1 h2 h3
theorem j_getI (E : jE C cc nL Ts own ret rm) {a ci k N index : Nat} {Cn : String} {T : u_T} (hd : decode cc pc = .ok (.getfield index, 3)) (hL : a ∈ (jG C).1) (hK : (jG C).2.1 a = ci) (hcl : vwCl[ci]? = some (Cn, T, N)) (hk : k < N) (hin : ∀ w ∈ u_ws Cn T N, w ∈ Ts) (hlk : Cond.fieldLink own index (T k).1 (T k).2.1 (T k).2.2.1 ∈ Ts) (ht : (pty ci)[k]? = some 0) (kk : jW C nL (pc + 3) lv (.int (M.1 a k) :: st) X M kc ks Q) : jW C nL pc lv (.ref a :: st) X M kc ks Q := fun H locs ls hP hD hS hl => by
  obtain ⟨q, hq⟩ := pW_get (jcy C) X (jG C) M hL
  rw [pcell_o (jcy C) (jG C) M hK (List.getElem?_eq_some_iff.mp hcl).1] at hq
  exact va_get (D := jD C) (ci := ci) (C := Cn) (T := T) (N := N) E.1 E.2.1 E.2.2.2.2.1 hin E.2.2.2.1 E.2.2.2.2.2.1 hP q hq hcl k hk (E.2.2.2.2.1 _ hlk) (fun _ h => h) (by rw [pfl_get M (jG C).2.2.2 a (pty ci) 0 k 0 ht]; simp [pval]) hd (kk H locs ls hP hD hS hl)
theorem j_getF (E : jE C cc nL Ts own ret rm) {a ci k N index : Nat} {Cn : String} {T : u_T} (hd : decode cc pc = .ok (.getfield index, 3)) (hL : a ∈ (jG C).1) (hK : (jG C).2.1 a = ci) (hcl : vwCl[ci]? = some (Cn, T, N)) (hk : k < N) (hin : ∀ w ∈ u_ws Cn T N, w ∈ Ts) (hlk : Cond.fieldLink own index (T k).1 (T k).2.1 (T k).2.2.1 ∈ Ts) (ht : (pty ci)[k]? = some 1) (kk : jW C nL (pc + 3) lv (.float (M.2 a k) :: st) X M kc ks Q) : jW C nL pc lv (.ref a :: st) X M kc ks Q := fun H locs ls hP hD hS hl => by
  obtain ⟨q, hq⟩ := pW_get (jcy C) X (jG C) M hL
  rw [pcell_o (jcy C) (jG C) M hK (List.getElem?_eq_some_iff.mp hcl).1] at hq
  exact va_get (D := jD C) (ci := ci) (C := Cn) (T := T) (N := N) E.1 E.2.1 E.2.2.2.2.1 hin E.2.2.2.1 E.2.2.2.2.2.1 hP q hq hcl k hk (E.2.2.2.2.1 _ hlk) (fun _ h => h) (by rw [pfl_get M (jG C).2.2.2 a (pty ci) 0 k 1 ht]; simp [pval]) hd (kk H locs ls hP hD hS hl)
theorem j_getP (E : jE C cc nL Ts own ret rm) {a ci k N index : Nat} {Cn : String} {T : u_T} (hd : decode cc pc = .ok (.getfield index, 3)) (hL : a ∈ (jG C).1) (hK : (jG C).2.1 a = ci) (hcl : vwCl[ci]? = some (Cn, T, N)) (hk : k < N) (hin : ∀ w ∈ u_ws Cn T N, w ∈ Ts) (hlk : Cond.fieldLink own index (T k).1 (T k).2.1 (T k).2.2.1 ∈ Ts) (ht : (pty ci)[k]? = some 2) {b : Nat} (hp : (jG C).2.2.2 a k = some b) (kk : jW C nL (pc + 3) lv (.ref b :: st) X M kc ks Q) : jW C nL pc lv (.ref a :: st) X M kc ks Q := fun H locs ls hP hD hS hl => by
  obtain ⟨q, hq⟩ := pW_get (jcy C) X (jG C) M hL
  rw [pcell_o (jcy C) (jG C) M hK (List.getElem?_eq_some_iff.mp hcl).1] at hq
  exact va_get (D := jD C) (ci := ci) (C := Cn) (T := T) (N := N) E.1 E.2.1 E.2.2.2.2.1 hin E.2.2.2.1 E.2.2.2.2.2.1 hP q hq hcl k hk (E.2.2.2.2.1 _ hlk) (fun _ h => h) (by rw [pfl_get M (jG C).2.2.2 a (pty ci) 0 k 2 ht]; simp [pval, va_rf, hp]) hd (kk H locs ls hP hD hS hl)
theorem j_putI (E : jE C cc nL Ts own ret rm) {a ci k N index : Nat} {Cn : String} {T : u_T} {v : Int32} {ty : FieldType} (hd : decode cc pc = .ok (.putfield index, 3)) (hL : a ∈ (jG C).1) (hK : (jG C).2.1 a = ci) (hcl : vwCl[ci]? = some (Cn, T, N)) (hk : k < N) (hin : ∀ w ∈ u_ws Cn T N, w ∈ Ts) (hlk : Cond.fieldLink own index (T k).1 (T k).2.1 (T k).2.2.1 ∈ Ts) (ht : (pty ci)[k]? = some 0) (ty0 : Nat → FieldType) (hty : ∀ k, k < N → parseFieldDescriptor (T k).2.2.1 = some (ty0 k)) (hnm : ∀ a, a < N → ∀ b, b < N → a ≠ b → (T a).2.1 ≠ (T b).2.1) (hfin : (T k).2.2.2 = false) (hty1 : ty0 k = ty) (hn : narrow ty (.int v) = .int v) (hfit : fits ty (.int v) = true) (kk : jW C nL (pc + 3) lv st X (pI M a k v) kc ks Q) : jW C nL pc lv (.int v :: .ref a :: st) X M kc ks Q := fun H locs ls hP hD hS hl => by
  obtain ⟨q, hq⟩ := pW_get (jcy C) X (jG C) M hL
  have hc8 : ci < 8 := (List.getElem?_eq_some_iff.mp hcl).1
  have hq2 := hq
  rw [pcell_o (jcy C) (jG C) M hK hc8] at hq2
  have hset : (pW (jcy C) X (jG C) M).set q (a, .inr (ci, (pfl M (jG C).2.2.2 a (pty ci) 0).set k (.int v))) = pW (jcy C) X (jG C) (pI M a k v) := by
    refine pW_set hD hL hq ?_ (fun b hb => ?_)
    · rw [pcell_o (jcy C) (jG C) _ hK hc8]
      rw [pfl_set (M' := pI M a k v) (jG C).2.2.2 (pty ci) ht (by simp [pval, pI, va_up]) (fun i hi => by simp [pI, va_up, hi])]
    · simp [pI, va_up, hb]
  refine va_put (D := jD C) (ci := ci) (C := Cn) (T := T) (N := N) E.1 E.2.1 E.2.2.2.2.1 hin ty0 hty hnm E.2.2.2.1 E.2.2.2.2.2.1 hP hD hS q hq2 hcl k hk (E.2.2.2.2.1 _ hlk) (fun _ h => h) hfin (hty1 ▸ hty k hk) hn hfit (by rw [pfl_len]; exact (List.getElem?_eq_some_iff.mp ht).1) hd (fun H locs hP hD hS => ?_)
  rw [hset] at hP hD
  exact kk H locs ls hP hD hS hl
theorem j_putF (E : jE C cc nL Ts own ret rm) {a ci k N index : Nat} {Cn : String} {T : u_T} {v : UInt32} {ty : FieldType} (hd : decode cc pc = .ok (.putfield index, 3)) (hL : a ∈ (jG C).1) (hK : (jG C).2.1 a = ci) (hcl : vwCl[ci]? = some (Cn, T, N)) (hk : k < N) (hin : ∀ w ∈ u_ws Cn T N, w ∈ Ts) (hlk : Cond.fieldLink own index (T k).1 (T k).2.1 (T k).2.2.1 ∈ Ts) (ht : (pty ci)[k]? = some 1) (ty0 : Nat → FieldType) (hty : ∀ k, k < N → parseFieldDescriptor (T k).2.2.1 = some (ty0 k)) (hnm : ∀ a, a < N → ∀ b, b < N → a ≠ b → (T a).2.1 ≠ (T b).2.1) (hfin : (T k).2.2.2 = false) (hty1 : ty0 k = ty) (hn : narrow ty (.float v) = .float v) (hfit : fits ty (.float v) = true) (kk : jW C nL (pc + 3) lv st X (pF M a k v) kc ks Q) : jW C nL pc lv (.float v :: .ref a :: st) X M kc ks Q := fun H locs ls hP hD hS hl => by
  obtain ⟨q, hq⟩ := pW_get (jcy C) X (jG C) M hL
  have hc8 : ci < 8 := (List.getElem?_eq_some_iff.mp hcl).1
  have hq2 := hq
  rw [pcell_o (jcy C) (jG C) M hK hc8] at hq2
  have hset : (pW (jcy C) X (jG C) M).set q (a, .inr (ci, (pfl M (jG C).2.2.2 a (pty ci) 0).set k (.float v))) = pW (jcy C) X (jG C) (pF M a k v) := by
    refine pW_set hD hL hq ?_ (fun b hb => ?_)
    · rw [pcell_o (jcy C) (jG C) _ hK hc8]
      rw [pfl_set (M' := pF M a k v) (jG C).2.2.2 (pty ci) ht (by simp [pval, pF, va_up]) (fun i hi => by simp [pF, va_up, hi])]
    · simp [pF, va_up, hb]
  refine va_put (D := jD C) (ci := ci) (C := Cn) (T := T) (N := N) E.1 E.2.1 E.2.2.2.2.1 hin ty0 hty hnm E.2.2.2.1 E.2.2.2.2.2.1 hP hD hS q hq2 hcl k hk (E.2.2.2.2.1 _ hlk) (fun _ h => h) hfin (hty1 ▸ hty k hk) hn hfit (by rw [pfl_len]; exact (List.getElem?_eq_some_iff.mp ht).1) hd (fun H locs hP hD hS => ?_)
  rw [hset] at hP hD
  exact kk H locs ls hP hD hS hl
theorem j_iald (E : jE C cc nL Ts own ret rm) (hd : decode cc pc = .ok (.iaload, 1)) {a N j : Nat} {i : Int32} (hL : a ∈ (jG C).1) (hlen : (jG C).2.2.1 a = N) (hi : i = nI j) (hj : j < N) (hN : N < 2 ^ 31) (hK : (jG C).2.1 a = 10) (kk : jW C nL (pc + 1) lv (.int (M.1 a j) :: st) X M kc ks Q) : jW C nL pc lv (.int i :: .ref a :: st) X M kc ks Q := fun H locs ls hP hD hS hl => by
  obtain ⟨q, hq⟩ := pW_get (jcy C) X (jG C) M hL
  rw [pcell_I (jcy C) (jG C) M hK] at hq
  subst hi
  have h := kk H locs ls hP hD hS hl
  rw [show j = (nI j).toNatClampNeg from (nI_clamp (by omega)).symm] at h
  exact va_iald (D := jD C) E.1 E.2.1 E.2.2.2.2.2.1 hP q 2 hq rfl (by rw [hlen]; exact vp_in_nI hj hN) hd (by rw [nI_clamp (by omega)] at h ⊢; exact h)
theorem j_zald (E : jE C cc nL Ts own ret rm) (hd : decode cc pc = .ok (.baload, 1)) {a N j : Nat} {i : Int32} (hL : a ∈ (jG C).1) (hlen : (jG C).2.2.1 a = N) (hi : i = nI j) (hj : j < N) (hN : N < 2 ^ 31) (hK : (jG C).2.1 a = 11) (kk : jW C nL (pc + 1) lv (.int (M.1 a j) :: st) X M kc ks Q) : jW C nL pc lv (.int i :: .ref a :: st) X M kc ks Q := fun H locs ls hP hD hS hl => by
  obtain ⟨q, hq⟩ := pW_get (jcy C) X (jG C) M hL
  rw [pcell_Z (jcy C) (jG C) M hK] at hq
  subst hi
  have h := kk H locs ls hP hD hS hl
  rw [show j = (nI j).toNatClampNeg from (nI_clamp (by omega)).symm] at h
  exact va_zald (D := jD C) E.1 E.2.1 E.2.2.2.2.2.1 hP q 3 hq rfl (by rw [hlen]; exact vp_in_nI hj hN) hd (by rw [nI_clamp (by omega)] at h ⊢; exact h)
theorem j_cald (E : jE C cc nL Ts own ret rm) (hd : decode cc pc = .ok (.caload, 1)) {a N j : Nat} {i : Int32} (hL : a ∈ (jG C).1) (hlen : (jG C).2.2.1 a = N) (hi : i = nI j) (hj : j < N) (hN : N < 2 ^ 31) (hK : (jG C).2.1 a = 8) (kk : jW C nL (pc + 1) lv (.int (M.1 a j) :: st) X M kc ks Q) : jW C nL pc lv (.int i :: .ref a :: st) X M kc ks Q := fun H locs ls hP hD hS hl => by
  obtain ⟨q, hq⟩ := pW_get (jcy C) X (jG C) M hL
  rw [pcell_C (jcy C) (jG C) M hK] at hq
  subst hi
  have h := kk H locs ls hP hD hS hl
  rw [show j = (nI j).toNatClampNeg from (nI_clamp (by omega)).symm] at h
  exact va_cald (D := jD C) E.1 E.2.1 E.2.2.2.2.2.1 hP q 0 hq rfl (by rw [hlen]; exact vp_in_nI hj hN) hd (by rw [nI_clamp (by omega)] at h ⊢; exact h)
theorem j_fald (E : jE C cc nL Ts own ret rm) (hd : decode cc pc = .ok (.faload, 1)) {a N j : Nat} {i : Int32} (hL : a ∈ (jG C).1) (hlen : (jG C).2.2.1 a = N) (hi : i = nI j) (hj : j < N) (hN : N < 2 ^ 31) (hK : (jG C).2.1 a = 9) (kk : jW C nL (pc + 1) lv (.float (M.2 a j) :: st) X M kc ks Q) : jW C nL pc lv (.int i :: .ref a :: st) X M kc ks Q := fun H locs ls hP hD hS hl => by
  obtain ⟨q, hq⟩ := pW_get (jcy C) X (jG C) M hL
  rw [pcell_F (jcy C) (jG C) M hK] at hq
  subst hi
  have h := kk H locs ls hP hD hS hl
  rw [show j = (nI j).toNatClampNeg from (nI_clamp (by omega)).symm] at h
  exact va_fald (D := jD C) E.1 E.2.1 E.2.2.2.2.2.1 hP q 1 hq rfl (by rw [hlen]; exact vp_in_nI hj hN) hd (by rw [nI_clamp (by omega)] at h ⊢; exact h)
theorem j_iast (E : jE C cc nL Ts own ret rm) {v : Int32} (hd : decode cc pc = .ok (.iastore, 1)) {a N j : Nat} {i : Int32} (hL : a ∈ (jG C).1) (hlen : (jG C).2.2.1 a = N) (hi : i = nI j) (hj : j < N) (hN : N < 2 ^ 31) (hK : (jG C).2.1 a = 10) (kk : jW C nL (pc + 1) lv st X (pI M a j v) kc ks Q) : jW C nL pc lv (.int v :: .int i :: .ref a :: st) X M kc ks Q := fun H locs ls hP hD hS hl => by
  obtain ⟨q, hq⟩ := pW_get (jcy C) X (jG C) M hL
  have hq2 := hq
  rw [pcell_I (jcy C) (jG C) M hK] at hq2
  subst hi
  have hset : (pW (jcy C) X (jG C) M).set q (a, .inl (jcy C 2, (jG C).2.2.1 a, .inl (upd (M.1 a) j v))) = pW (jcy C) X (jG C) (pI M a j v) := by
    refine pW_set hD hL hq ?_ (fun b hb => ?_)
    · rw [pcell_I (jcy C) (jG C) _ hK]
      simp only [pI, va_up, if_true]
      rfl
    · simp [pI, va_up, hb]
  refine va_iast (D := jD C) E.1 E.2.1 E.2.2.2.2.2.1 hP hD hS q 2 hq2 rfl (by rw [hlen]; exact vp_in_nI hj hN) hd (fun H locs hP hD hS => ?_)
  rw [nI_clamp (by omega), hset] at hP hD
  exact kk H locs ls hP hD hS hl
theorem j_zast (E : jE C cc nL Ts own ret rm) {v : Int32} (hd : decode cc pc = .ok (.bastore, 1)) {a N j : Nat} {i : Int32} (hL : a ∈ (jG C).1) (hlen : (jG C).2.2.1 a = N) (hi : i = nI j) (hj : j < N) (hN : N < 2 ^ 31) (hK : (jG C).2.1 a = 11) (hnar : vp_nar .boolean v = v) (kk : jW C nL (pc + 1) lv st X (pI M a j v) kc ks Q) : jW C nL pc lv (.int v :: .int i :: .ref a :: st) X M kc ks Q := fun H locs ls hP hD hS hl => by
  obtain ⟨q, hq⟩ := pW_get (jcy C) X (jG C) M hL
  have hq2 := hq
  rw [pcell_Z (jcy C) (jG C) M hK] at hq2
  subst hi
  have hset : (pW (jcy C) X (jG C) M).set q (a, .inl (jcy C 3, (jG C).2.2.1 a, .inl (upd (M.1 a) j v))) = pW (jcy C) X (jG C) (pI M a j v) := by
    refine pW_set hD hL hq ?_ (fun b hb => ?_)
    · rw [pcell_Z (jcy C) (jG C) _ hK]
      simp only [pI, va_up, if_true]
      rfl
    · simp [pI, va_up, hb]
  refine va_zast (D := jD C) E.1 E.2.1 E.2.2.2.2.2.1 hP hD hS q 3 hq2 rfl (by rw [hlen]; exact vp_in_nI hj hN) hd (fun H locs hP hD hS => ?_)
  rw [hnar, nI_clamp (by omega), hset] at hP hD
  exact kk H locs ls hP hD hS hl
theorem j_cast (E : jE C cc nL Ts own ret rm) {v : Int32} (hd : decode cc pc = .ok (.castore, 1)) {a N j : Nat} {i : Int32} (hL : a ∈ (jG C).1) (hlen : (jG C).2.2.1 a = N) (hi : i = nI j) (hj : j < N) (hN : N < 2 ^ 31) (hK : (jG C).2.1 a = 8) (hnar : vp_nar .char v = v) (kk : jW C nL (pc + 1) lv st X (pI M a j v) kc ks Q) : jW C nL pc lv (.int v :: .int i :: .ref a :: st) X M kc ks Q := fun H locs ls hP hD hS hl => by
  obtain ⟨q, hq⟩ := pW_get (jcy C) X (jG C) M hL
  have hq2 := hq
  rw [pcell_C (jcy C) (jG C) M hK] at hq2
  subst hi
  have hset : (pW (jcy C) X (jG C) M).set q (a, .inl (jcy C 0, (jG C).2.2.1 a, .inl (upd (M.1 a) j v))) = pW (jcy C) X (jG C) (pI M a j v) := by
    refine pW_set hD hL hq ?_ (fun b hb => ?_)
    · rw [pcell_C (jcy C) (jG C) _ hK]
      simp only [pI, va_up, if_true]
      rfl
    · simp [pI, va_up, hb]
  refine va_cast (D := jD C) E.1 E.2.1 E.2.2.2.2.2.1 hP hD hS q 0 hq2 rfl (by rw [hlen]; exact vp_in_nI hj hN) hd (fun H locs hP hD hS => ?_)
  rw [hnar, nI_clamp (by omega), hset] at hP hD
  exact kk H locs ls hP hD hS hl
theorem j_fast (E : jE C cc nL Ts own ret rm) {v : UInt32} (hd : decode cc pc = .ok (.fastore, 1)) {a N j : Nat} {i : Int32} (hL : a ∈ (jG C).1) (hlen : (jG C).2.2.1 a = N) (hi : i = nI j) (hj : j < N) (hN : N < 2 ^ 31) (hK : (jG C).2.1 a = 9) (kk : jW C nL (pc + 1) lv st X (pF M a j v) kc ks Q) : jW C nL pc lv (.float v :: .int i :: .ref a :: st) X M kc ks Q := fun H locs ls hP hD hS hl => by
  obtain ⟨q, hq⟩ := pW_get (jcy C) X (jG C) M hL
  have hq2 := hq
  rw [pcell_F (jcy C) (jG C) M hK] at hq2
  subst hi
  have hset : (pW (jcy C) X (jG C) M).set q (a, .inl (jcy C 1, (jG C).2.2.1 a, .inr (.inr (.inl (vf_upd (M.2 a) j v))))) = pW (jcy C) X (jG C) (pF M a j v) := by
    refine pW_set hD hL hq ?_ (fun b hb => ?_)
    · rw [pcell_F (jcy C) (jG C) _ hK]
      simp only [pF, va_up, if_true]
      rfl
    · simp [pF, va_up, hb]
  refine va_fast (D := jD C) E.1 E.2.1 E.2.2.2.2.2.1 hP hD hS q 1 hq2 rfl (by rw [hlen]; exact vp_in_nI hj hN) hd (fun H locs hP hD hS => ?_)
  rw [nI_clamp (by omega), hset] at hP hD
  exact kk H locs ls hP hD hS hl
theorem j_aldP (E : jE C cc nL Ts own ret rm) {b : Nat} (hd : decode cc pc = .ok (.aaload, 1)) {a N j : Nat} {i : Int32} (hL : a ∈ (jG C).1) (hlen : (jG C).2.2.1 a = N) (hi : i = nI j) (hj : j < N) (hN : N < 2 ^ 31) (hK : (jG C).2.1 a = 12) (hp : (jG C).2.2.2 a j = some b) (kk : jW C nL (pc + 1) lv (.ref b :: st) X M kc ks Q) : jW C nL pc lv (.int i :: .ref a :: st) X M kc ks Q := fun H locs ls hP hD hS hl => by
  obtain ⟨q, hq⟩ := pW_get (jcy C) X (jG C) M hL
  rw [pcell_P (jcy C) (jG C) M hK (by decide)] at hq
  subst hi
  refine va_aldq (D := jD C) (C := RX2) E.1 E.2.1 E.2.2.2.2.2.1 hP q 4 hq rfl (by rw [hlen]; exact vp_in_nI hj hN) hd ?_
  rw [nI_clamp (by omega), hp]
  exact kk H locs ls hP hD hS hl
theorem j_lenP (E : jE C cc nL Ts own ret rm) {a N : Nat} {v : Int32} (hd : decode cc pc = .ok (.arraylength, 1)) (hL : a ∈ (jG C).1) (hlen : (jG C).2.2.1 a = N) (hK : (jG C).2.1 a = 12) (hv : nI N = v) (kk : jW C nL (pc + 1) lv (.int v :: st) X M kc ks Q) : jW C nL pc lv (.ref a :: st) X M kc ks Q := fun H locs ls hP hD hS hl => by
  obtain ⟨q, hq⟩ := pW_get (jcy C) X (jG C) M hL
  rw [pcell_P (jcy C) (jG C) M hK (by decide)] at hq
  exact va_alen (D := jD C) (ty := .object RX2) E.1 E.2.1 E.2.2.2.2.2.1 hP q 4 hq rfl (by rw [← hv, ← hlen]; rfl) hd (kk H locs ls hP hD hS hl)
theorem j_aldR (E : jE C cc nL Ts own ret rm) {b : Nat} (hd : decode cc pc = .ok (.aaload, 1)) {a N j : Nat} {i : Int32} (hL : a ∈ (jG C).1) (hlen : (jG C).2.2.1 a = N) (hi : i = nI j) (hj : j < N) (hN : N < 2 ^ 31) (hK : (jG C).2.1 a = 13) (hp : (jG C).2.2.2 a j = some b) (kk : jW C nL (pc + 1) lv (.ref b :: st) X M kc ks Q) : jW C nL pc lv (.int i :: .ref a :: st) X M kc ks Q := fun H locs ls hP hD hS hl => by
  obtain ⟨q, hq⟩ := pW_get (jcy C) X (jG C) M hL
  rw [pcell_P (jcy C) (jG C) M hK (by decide)] at hq
  subst hi
  refine va_aldq (D := jD C) (C := RX4) E.1 E.2.1 E.2.2.2.2.2.1 hP q 5 hq rfl (by rw [hlen]; exact vp_in_nI hj hN) hd ?_
  rw [nI_clamp (by omega), hp]
  exact kk H locs ls hP hD hS hl
theorem j_lenR (E : jE C cc nL Ts own ret rm) {a N : Nat} {v : Int32} (hd : decode cc pc = .ok (.arraylength, 1)) (hL : a ∈ (jG C).1) (hlen : (jG C).2.2.1 a = N) (hK : (jG C).2.1 a = 13) (hv : nI N = v) (kk : jW C nL (pc + 1) lv (.int v :: st) X M kc ks Q) : jW C nL pc lv (.ref a :: st) X M kc ks Q := fun H locs ls hP hD hS hl => by
  obtain ⟨q, hq⟩ := pW_get (jcy C) X (jG C) M hL
  rw [pcell_P (jcy C) (jG C) M hK (by decide)] at hq
  exact va_alen (D := jD C) (ty := .object RX4) E.1 E.2.1 E.2.2.2.2.2.1 hP q 5 hq rfl (by rw [← hv, ← hlen]; rfl) hd (kk H locs ls hP hD hS hl)
theorem j_aldZ (E : jE C cc nL Ts own ret rm) {b : Nat} (hd : decode cc pc = .ok (.aaload, 1)) {a N j : Nat} {i : Int32} (hL : a ∈ (jG C).1) (hlen : (jG C).2.2.1 a = N) (hi : i = nI j) (hj : j < N) (hN : N < 2 ^ 31) (hK : (jG C).2.1 a = 14) (hp : (jG C).2.2.2 a j = some b) (kk : jW C nL (pc + 1) lv (.ref b :: st) X M kc ks Q) : jW C nL pc lv (.int i :: .ref a :: st) X M kc ks Q := fun H locs ls hP hD hS hl => by
  obtain ⟨q, hq⟩ := pW_get (jcy C) X (jG C) M hL
  rw [pcell_P (jcy C) (jG C) M hK (by decide)] at hq
  subst hi
  refine va_aldq (D := jD C) (C := RX5) E.1 E.2.1 E.2.2.2.2.2.1 hP q 6 hq rfl (by rw [hlen]; exact vp_in_nI hj hN) hd ?_
  rw [nI_clamp (by omega), hp]
  exact kk H locs ls hP hD hS hl
theorem j_lenZ (E : jE C cc nL Ts own ret rm) {a N : Nat} {v : Int32} (hd : decode cc pc = .ok (.arraylength, 1)) (hL : a ∈ (jG C).1) (hlen : (jG C).2.2.1 a = N) (hK : (jG C).2.1 a = 14) (hv : nI N = v) (kk : jW C nL (pc + 1) lv (.int v :: st) X M kc ks Q) : jW C nL pc lv (.ref a :: st) X M kc ks Q := fun H locs ls hP hD hS hl => by
  obtain ⟨q, hq⟩ := pW_get (jcy C) X (jG C) M hL
  rw [pcell_P (jcy C) (jG C) M hK (by decide)] at hq
  exact va_alen (D := jD C) (ty := .object RX5) E.1 E.2.1 E.2.2.2.2.2.1 hP q 6 hq rfl (by rw [← hv, ← hlen]; rfl) hd (kk H locs ls hP hD hS hl)
theorem j_min (E : jE C cc nL Ts own ret rm) {index : Nat} {x y : Int32} (hd : decode cc pc = .ok (.invokestatic index, 3)) (h1 : Cond.methodLink own index Lib.Math.min.name ∈ Ts) (h2 : Cond.static Lib.Math.min.name ∈ Ts) (h3 : Cond.initialized "java/lang/Math" ∈ Ts) (h4 : Cond.code Lib.Math.min.name Lib.Math.min.code 2 (some .int) ∈ Ts) (hf : 1 ≤ rm.frames) (hlo : (st.map fun v => v.category).sum + 13 ≤ rm.locals) (hkc : kc ≤ rm.cells) (hks : ks ≤ rm.slots) (kk : jW C nL (pc + 3) lv (.int (if y < x then y else x) :: st) X M kc ks Q) : jW C nL pc lv (.int y :: .int x :: st) X M kc ks Q := fun H locs ls hP hD hS hl => by
  have hR := E.2.2.2.2.2.2.2.2.2.2
  refine va_mmin E.1 E.2.1 (E.2.2.1.trans hl.1.symm) E.2.2.2.1 (E.2.2.2.2.1 _ h1) (E.2.2.2.2.1 _ h2) (E.2.2.2.2.1 _ h3) (E.2.2.2.2.1 _ h4) (by rw [hR]; exact hf) (by rw [hR]; exact hlo) (by rw [hR]; exact hkc) (by rw [hR]; exact hks) hd (kk H locs ls hP hD hS hl)
theorem j_copyI (E : jE C cc nL Ts own ret rm) {index : Nat} {sp dp n : Int32} {a N spN dpN nN : Nat} (hd : decode cc pc = .ok (.invokestatic index, 3)) (h1 : Cond.methodLink own index arraycopyName ∈ Ts) (h2 : Cond.native arraycopyName ∈ Ts) (h3 : Cond.static arraycopyName ∈ Ts) (h4 : Cond.initialized "java/lang/System" ∈ Ts) (hf : 1 ≤ rm.frames) (hlo : (st.map fun v => v.category).sum + (nativeFrameWords "java/lang/System" "arraycopy" 5 + 11) ≤ rm.locals)
    (hL : a ∈ (jG C).1) (hlen : (jG C).2.2.1 a = N) (hK : (jG C).2.1 a = 10) (hsp : sp = nI spN) (hdp : dp = nI dpN) (hn : n = nI nN) (hb : spN + nN ≤ N ∧ dpN + nN ≤ N ∧ N < 2 ^ 31) (kk : jW C nL (pc + 3) lv st X (pR M a (va_cpy (M.1 a) (M.1 a) spN dpN nN)) kc ks Q) : jW C nL pc lv (.int n :: .int dp :: .ref a :: .int sp :: .ref a :: st) X M kc ks Q := fun H locs ls hP hD hS hl => by
  have hR := E.2.2.2.2.2.2.2.2.2.2
  obtain ⟨q, hq⟩ := pW_get (jcy C) X (jG C) M hL
  have hq2 := hq
  rw [pcell_I (jcy C) (jG C) M hK] at hq2
  subst hsp; subst hdp; subst hn
  have c1 : (nI spN).toNatClampNeg = spN := nI_clamp (by omega)
  have c2 : (nI dpN).toNatClampNeg = dpN := nI_clamp (by omega)
  have c3 : (nI nN).toNatClampNeg = nN := nI_clamp (by omega)
  have hset : (pW (jcy C) X (jG C) M).set q (a, .inl (jcy C 2, (jG C).2.2.1 a, .inl (va_cpy (M.1 a) (M.1 a) spN dpN nN))) = pW (jcy C) X (jG C) (pR M a (va_cpy (M.1 a) (M.1 a) spN dpN nN)) := by
    refine pW_set hD hL hq ?_ (fun b hb => ?_)
    · rw [pcell_I (jcy C) (jG C) _ hK]
      simp only [pR, va_up, if_true]
    · simp [pR, va_up, hb]
  refine va_copyi (D := jD C) (ty := .int) E.1 E.2.1 (E.2.2.1.trans hl.1.symm) E.2.2.2.1 (E.2.2.2.2.1 _ h1) (E.2.2.2.2.1 _ h2) (E.2.2.2.2.1 _ h3) (E.2.2.2.2.1 _ h4) E.2.2.2.2.2.1 hP hD hS q q 2 2 hq2 hq2 rfl rfl rfl (nI_pos (by omega)) (nI_pos (by omega)) (nI_pos (by omega)) (by rw [c1, c3, hlen]; omega) (by rw [c2, c3, hlen]; omega) (fun i _ => rfl) (by rw [hR]; exact hf) (by rw [hR]; exact hlo) hd (fun H locs hP hD hS => ?_)
  rw [c1, c2, c3, hset] at hP hD
  exact kk H locs ls hP hD hS hl
end J
/-! CONTRACTS: a method y with the arguments av, in the world X and the pool (G, M), returns r, and the pool's memory is M2, the world X2; nothing else has changed, nothing is new. -/
def jQ (D : va_G) (cy : Nat → ClassId) (X : va_W) (G : pG) (M : pM) (A : Nat → Prop) (r : Option Value) : Array Value → State → Outcome → State → Prop := fun _ st oc t =>
  (oc = .returned r ∧ va_P D vwCl (pW cy X G M) t.heap ∧ va_K D vwCl (ptys cy) t ∧ va_D A (pW cy X G M)) ∧ va_F A st t
def jPre (D : va_G) (cy : Nat → ClassId) (X : va_W) (G : pG) (M : pM) (sz : Nat) (U : State) : Prop := U.heap.size = sz ∧ va_P D vwCl (pW cy X G M) U.heap ∧ va_K D vwCl (ptys cy) U ∧ va_D (fun _ => True) (pW cy X G M)
def jK (l : Launch) (y : MethodName) (ws : List Cond) (rm : Room) (D : va_G) (cy : Nat → ClassId) (X : va_W) (G : pG) (M : pM) (av : List Value) (r : Option Value) (X2 : va_W) (M2 : pM) : Prop :=
  ∀ sz : Nat, Met l y ws rm (va_Pc av (jPre D cy X G M sz)) (jQ D cy X2 G M2 (va_A (pW cy X G M) sz) r) 0 0 (va_A (pW cy X G M) sz)
/-- what a method's end must show -/
def jZ (C : jC) (X : va_W) (M : pM) (r : Option Value) (kc ks : Nat) : State → Prop := MQ (jb C) (jQ (jD C) (jcy C) X (jG C) M (jA C) r) (ja C) (js C) kc ks (jA C)
theorem jPre_blind {D : va_G} {cy : Nat → ClassId} {X : va_W} {G : pG} {M : pM} {sz : Nat} {av : List Value} : FrameBlind (va_Pc av (jPre D cy X G M sz)) := fun a U g mk q => by
  obtain ⟨q0, q1, qP, qK, qD⟩ := q
  exact ⟨q0, q1, qP, va_K.moved (u := U) (U := U.calling g mk a) (Vm.Alike.refl U.vm) qK, qD⟩
theorem jK_of {l : Launch} {y : MethodName} {ws ws' : List Cond} {rm : Room} {D : va_G} {cy : Nat → ClassId} {X : va_W} {G : pG} {M : pM} {av : List Value} {r : Option Value} {X2 : va_W} {M2 : pM} {cc : ByteArray} {maxL : Nat} {ret : Option FieldType} {own : String}
    (hy : plainName y.cls = true) (ho : y.cls = own) (hw : ws = Cond.code y cc maxL ret :: ws') (hav : (lg_sl av).length ≤ maxL)
    (body : ∀ C : jC, jE C cc maxL ws own ret rm → jl C = l → jD C = D → jcy C = cy → jG C = G → jW C maxL 0 (lv_args 0 av) [] X M 0 0 (jZ C X2 M2 r 0 0)) : jK l y ws rm D cy X G M av r X2 M2 := by
  intro sz
  refine Met.ofW (cc := cc) (maxL := maxL) (ret := ret) hy hw ?_
  intro p e s m args below meth c s₁ B hml hv
  obtain ⟨rfl, hsz, hP, hK, hD0⟩ := hv
  have hts := atoms_spec (ws := ws) B.pre
  have hown : s.vm.findClass own = some m.cls := by rw [← ho]; exact findClass_of_methodNamed B.named
  subst hsz
  have hD := hD0.self (sz := s.heap.size)
  have hA : ∀ q : Nat, s.heap.size ≤ q → va_A (pW cy X G M) s.heap.size q := fun q h => Or.inr h
  have hl := lv_entry av (n := maxL) hav
  rw [lg_entry_eq]
  exact body ((p, l, e, (headSpec ws rm).room, s, m, av.toArray, below, meth, c), (D, cy, G, va_A (pW cy X G M) s.heap.size, s.heap)) ⟨B.exec, B.bytes, hml, hown, hts, hK, hA, B.notSynchronized, B.returns, rfl, rfl⟩ rfl rfl rfl rfl s.heap [] _ hP hD va_S.rf hl
section JR
variable {C : jC} {cc : ByteArray} {nL : Nat} {Ts : List Cond} {own : String} {ret : Option FieldType} {rm : Room} {pc : Nat} {lv : List (Nat × Value)} {X X2 : va_W} {M M2 : pM} {kc ks : Nat}
theorem j_iret (E : jE C cc nL Ts own (some .int) rm) {v v2 : Int32} (hd : decode cc pc = .ok (.ireturn, 1)) (hv : v = v2) (hX : X = X2) (hM : M = M2) : jW C nL pc lv [.int v] X M kc ks (jZ C X2 M2 (some (.int v2)) kc ks) := fun H locs ls hP hD hS hl => by
  subst hv; subst hX; subst hM
  have hb := E.2.2.2.2.2.2.2.1
  exact W.iret E.1 E.2.1 E.2.2.2.2.2.2.2.2.1 (fun t ht hW => ⟨⟨rfl, by rw [ht]; exact hP, va_K.moved hW.alike E.2.2.2.2.2.1, hD⟩, by have hS9 := hS; rw [E.2.2.2.2.2.2.2.2.2.1] at hS9; exact hS9.F ht⟩) hS.2.2 hd hb
theorem j_zret (E : jE C cc nL Ts own (some .boolean) rm) {v v2 : Int32} (hd : decode cc pc = .ok (.ireturn, 1)) (hn : narrow .boolean (.int v) = .int v) (hv : v = v2) (hX : X = X2) (hM : M = M2) : jW C nL pc lv [.int v] X M kc ks (jZ C X2 M2 (some (.int v2)) kc ks) := fun H locs ls hP hD hS hl => by
  subst hv; subst hX; subst hM
  have hb := E.2.2.2.2.2.2.2.1
  exact W.zret E.1 E.2.1 E.2.2.2.2.2.2.2.2.1 hn (fun t ht hW => ⟨⟨rfl, by rw [ht]; exact hP, va_K.moved hW.alike E.2.2.2.2.2.1, hD⟩, by have hS9 := hS; rw [E.2.2.2.2.2.2.2.2.2.1] at hS9; exact hS9.F ht⟩) hS.2.2 hd hb
theorem j_cret (E : jE C cc nL Ts own (some .char) rm) {v v2 : Int32} (hd : decode cc pc = .ok (.ireturn, 1)) (hn : narrow .char (.int v) = .int v) (hv : v = v2) (hX : X = X2) (hM : M = M2) : jW C nL pc lv [.int v] X M kc ks (jZ C X2 M2 (some (.int v2)) kc ks) := fun H locs ls hP hD hS hl => by
  subst hv; subst hX; subst hM
  have hb := E.2.2.2.2.2.2.2.1
  exact W.zret E.1 E.2.1 E.2.2.2.2.2.2.2.2.1 hn (fun t ht hW => ⟨⟨rfl, by rw [ht]; exact hP, va_K.moved hW.alike E.2.2.2.2.2.1, hD⟩, by have hS9 := hS; rw [E.2.2.2.2.2.2.2.2.2.1] at hS9; exact hS9.F ht⟩) hS.2.2 hd hb
theorem j_fret (E : jE C cc nL Ts own (some .float) rm) {v v2 : UInt32} (hd : decode cc pc = .ok (.freturn, 1)) (hv : v = v2) (hX : X = X2) (hM : M = M2) : jW C nL pc lv [.float v] X M kc ks (jZ C X2 M2 (some (.float v2)) kc ks) := fun H locs ls hP hD hS hl => by
  subst hv; subst hX; subst hM
  have hb := E.2.2.2.2.2.2.2.1
  exact W.fret E.1 E.2.1 E.2.2.2.2.2.2.2.2.1 (fun t ht hW => ⟨⟨rfl, by rw [ht]; exact hP, va_K.moved hW.alike E.2.2.2.2.2.1, hD⟩, by have hS9 := hS; rw [E.2.2.2.2.2.2.2.2.2.1] at hS9; exact hS9.F ht⟩) hS.2.2 hd hb
theorem j_vret (E : jE C cc nL Ts own none rm) (hd : decode cc pc = .ok (.return_, 1)) (hX : X = X2) (hM : M = M2) : jW C nL pc lv [] X M kc ks (jZ C X2 M2 none kc ks) := fun H locs ls hP hD hS hl => by
  subst hX; subst hM
  have hb := E.2.2.2.2.2.2.2.1
  exact W.vret E.1 E.2.1 E.2.2.2.2.2.2.2.2.1 (fun t ht hW => ⟨⟨rfl, by rw [ht]; exact hP, va_K.moved hW.alike E.2.2.2.2.2.1, hD⟩, by have hS9 := hS; rw [E.2.2.2.2.2.2.2.2.2.1] at hS9; exact hS9.F ht⟩) hS.2.2 hd hb
end JR
section JCall
variable {p : Program} {l : Launch} {e : Env} {R : Room} {s : State} {m : MethodId} {args : Array Value} {below : List Frame} {meth : Method} {c : Code} {H H0 : Heap} {locs : List Loc} {cells slots pc : Nat} {ls : Array Slot} {rest st0 : List Value} {Q : State → Prop} {a : Array Value} {free : Addr → Prop} {A0 A1 : Nat → Prop} {D : va_G} {cy : Nat → ClassId} {X : va_W} {G : pG} {M : pM} {r : Option Value}
theorem jx_call (hr : va_Run p l e R s m args below meth c H locs cells slots 0 0 (F0 m pc ls st0) rest (jQ D cy X G M A1 r a) free) (hS : va_S A0 H0 H locs) (hA : ∀ q, q < H.size → A1 q → A0 q) (hf : ∀ q, free q → A0 q)
    (kk : ∀ (H1 : Heap) (locs1 : List Loc), va_P D vwCl (pW cy X G M) H1 → va_S A0 H0 H1 locs1 → W p l e R s m args below meth c H1 locs1 cells slots Q (F0 m (pc + 3) ls (r.toList ++ rest))) : W p l e R s m args below meth c H locs cells slots Q (F0 m pc ls st0) := by
  intro T hT X0
  obtain ⟨v, st₀, t, T', L, h0, X', hL, e1, e2, ⟨⟨hv, hP, hK, hD⟩, hz, hk⟩, st⟩ := hr T hT X0
  cases hv
  rw [h0] at hz hk
  obtain ⟨t2, a1, b1⟩ := kk T'.heap (locs ++ L) (by rw [e1]; exact hP)
    ⟨Nat.le_trans hS.1 (by rw [e1]; exact hz), fun q h1 h2 => by rw [e1, hk q (Nat.lt_of_lt_of_le h1 hS.1) (fun z => h2 (hA q (Nat.lt_of_lt_of_le h1 hS.1) z))]; exact hS.2.1 q h1 h2, fun q hq => by
      rcases List.mem_append.mp hq with h | h
      · exact hS.2.2 q h
      · exact hf _ (hL q h)⟩ T' rfl X'
  exact ⟨t2, st t2 a1, b1⟩
end JCall
section JC2
variable {C : jC} {cc : ByteArray} {nL : Nat} {Ts : List Cond} {own : String} {ret : Option FieldType} {rm : Room} {pc : Nat} {lv : List (Nat × Value)} {st rest : List Value} {X X2 : va_W} {M M2 : pM} {kc ks : Nat} {Q : State → Prop}
theorem jA_sub {A0 : Nat → Prop} {ws : va_W} {H0 H : Heap} {locs : List Loc} (hD : va_D A0 ws) (hS : va_S A0 H0 H locs) (hA : ∀ q, H0.size ≤ q → A0 q) : ∀ q, va_A ws H.size q → A0 q := by
  intro q hq
  rcases hq with ⟨k, e, hk⟩ | hq
  · exact hD.2 k _ hk
  · exact hA q (Nat.le_trans hS.1 hq)
theorem jD_addr {A : Nat → Prop} {ws ws' : va_W} (hD : va_D A ws) (h : ws.map Prod.fst = ws'.map Prod.fst) : va_D A ws' := by
  have key : ∀ (k : Nat) (q : Nat × va_E), ws'[k]? = some q → ∃ e, ws[k]? = some (q.1, e) := by
    intro k q hq
    have h1 : (ws'.map Prod.fst)[k]? = some q.1 := by rw [List.getElem?_map, hq]; rfl
    rw [← h, List.getElem?_map] at h1
    cases h2 : ws[k]? with
    | none => rw [h2] at h1; cases h1
    | some z =>
      rw [h2] at h1
      have h3 : z.1 = q.1 := by simpa using h1
      exact ⟨z.2, by rw [← h3]⟩
  constructor
  · intro i j p q hi hj h
    obtain ⟨e1, h1⟩ := key i p hi
    obtain ⟨e2, h2⟩ := key j q hj
    exact hD.1 i j _ _ h1 h2 h
  · intro k q hq
    obtain ⟨e1, h1⟩ := key k q hq
    exact hD.2 k (q.1, e1) h1
theorem pW_addr {cy : Nat → ClassId} {X X2 : va_W} {G : pG} {M M2 : pM} (hX : X.map Prod.fst = X2.map Prod.fst) : (pW cy X G M).map Prod.fst = (pW cy X2 G M2).map Prod.fst := by
  simp [pW, va_pl, hX, Function.comp_def]
/-- a call of an instance method, by its contract -/
theorem j_callV (E : jE C cc nL Ts own ret rm) {y : MethodName} {bytes : ByteArray} {maxL n index ci N b : Nat} {retY : Option FieldType} {wsY wsY' : List Cond} {rmY : Room} {Cn : String} {T : u_T} {As : List Value} {r : Option Value} (hM : jK (jl C) y wsY rmY (jD C) (jcy C) X (jG C) M (.ref b :: As) r X2 M2)
    (hd : decode cc pc = .ok (.invokevirtual index, 3)) (hg : GoodIn Ts (wsV own index Cn y wsY)) (hw : wsY = Cond.code y bytes maxL retY :: wsY') (hy : y.cls = Cn ∧ y.cls ≠ "java/lang/invoke/MethodHandle" ∧ y.cls ≠ "java/lang/invoke/VarHandle" ∧ (parseMethodDescriptor y.desc).map (fun d => d.parameters.length) = some n)
    (hrm : rmY.cells = 0 ∧ rmY.slots = 0 ∧ rmY.frames + 1 ≤ rm.frames ∧ 8 + (maxL + 11) + rmY.locals ≤ rm.locals) (hk : kc ≤ rm.cells ∧ ks ≤ rm.slots) (hL : b ∈ (jG C).1) (hK : (jG C).2.1 b = ci) (hcl : vwCl[ci]? = some (Cn, T, N)) (hn : As.length = n) (hst : st = As.reverse ++ .ref b :: rest) (hrest : (rest.map fun v => v.category).sum ≤ 8) (hX : X.map Prod.fst = X2.map Prod.fst)
    (kk : jW C nL (pc + 3) lv (r.toList ++ rest) X2 M2 kc ks Q) : jW C nL pc lv st X M kc ks Q := fun H locs ls hP hD hS hl => by
  have hR := E.2.2.2.2.2.2.2.2.2.2
  obtain ⟨q, hq⟩ := pW_get (jcy C) X (jG C) M hL
  rw [pcell_o (jcy C) (jG C) M hK (List.getElem?_eq_some_iff.mp hcl).1] at hq
  subst hst
  have hFc := jA_sub hD hS E.2.2.2.2.2.2.1
  refine jx_call (A0 := jA C) (H0 := jH C) (va_runV (As := As) (rest := rest) (n := n) (C := Cn) ⟨E.1, E.2.1, E.2.2.1, E.2.2.2.1, E.2.2.2.2.1⟩ (hM H.size) (cwV n E.2.2.2.2.1 hg hw hrm.1 hrm.2.1 hy ⟨by rw [hR]; exact hrm.2.2.1, by rw [hR]; exact hrm.2.2.2⟩) ⟨jPre_blind, va_recv E.2.2.2.2.2.1 hP hcl hq, fun U hU hW => ⟨rfl, by rw [hU], by rw [hU]; exact hP, va_K.moved hW.alike E.2.2.2.2.2.1, hD.weaken (fun _ _ _ _ => trivial)⟩⟩ rfl hn hl.1 rfl (lv_room hrest) hd ⟨by rw [hR]; exact hk.1, by rw [hR]; exact hk.2⟩) hS (fun q _ h => hFc q h) hFc (fun H1 locs1 hP1 hS1 => ?_)
  exact kk H1 locs1 ls hP1 (jD_addr hD (pW_addr hX)) hS1 hl
/-- a call of a static method, by its contract -/
theorem j_callS (E : jE C cc nL Ts own ret rm) {y : MethodName} {bytes : ByteArray} {maxL n index : Nat} {retY : Option FieldType} {wsY wsY' : List Cond} {rmY : Room} {As : List Value} {r : Option Value} (hM : jK (jl C) y wsY rmY (jD C) (jcy C) X (jG C) M As r X2 M2)
    (hd : decode cc pc = .ok (.invokestatic index, 3)) (hg : GoodIn Ts (va_wsS own index y wsY)) (hw : wsY = Cond.code y bytes maxL retY :: wsY') (hy : y.cls ≠ "java/lang/invoke/MethodHandle" ∧ y.cls ≠ "java/lang/invoke/VarHandle" ∧ (parseMethodDescriptor y.desc).map (fun d => d.parameters.length) = some n)
    (hrm : rmY.cells = 0 ∧ rmY.slots = 0 ∧ rmY.frames + 1 ≤ rm.frames ∧ 8 + (maxL + 11) + rmY.locals ≤ rm.locals) (hk : kc ≤ rm.cells ∧ ks ≤ rm.slots) (hn : As.length = n) (hst : st = As.reverse ++ rest) (hrest : (rest.map fun v => v.category).sum ≤ 8) (hX : X.map Prod.fst = X2.map Prod.fst)
    (kk : jW C nL (pc + 3) lv (r.toList ++ rest) X2 M2 kc ks Q) : jW C nL pc lv st X M kc ks Q := fun H locs ls hP hD hS hl => by
  have hR := E.2.2.2.2.2.2.2.2.2.2
  subst hst
  have hFc := jA_sub hD hS E.2.2.2.2.2.2.1
  refine jx_call (A0 := jA C) (H0 := jH C) (va_runS (As := As) (rest := rest) (n := n) ⟨E.1, E.2.1, E.2.2.1, E.2.2.2.1, E.2.2.2.2.1⟩ (hM H.size) (va_cwS n E.2.2.2.2.1 hg hw hrm.1 hrm.2.1 hy ⟨by rw [hR]; exact hrm.2.2.1, by rw [hR]; exact hrm.2.2.2⟩) ⟨jPre_blind, fun U hU hW => ⟨rfl, by rw [hU], by rw [hU]; exact hP, va_K.moved hW.alike E.2.2.2.2.2.1, hD.weaken (fun _ _ _ _ => trivial)⟩⟩ rfl hn hl.1 rfl (lv_room hrest) hd ⟨by rw [hR]; exact hk.1, by rw [hR]; exact hk.2⟩) hS (fun q _ h => hFc q h) hFc (fun H1 locs1 hP1 hS1 => ?_)
  exact kk H1 locs1 ls hP1 (jD_addr hD (pW_addr hX)) hS1 hl
theorem j_callV0 (E : jE C cc nL Ts own ret rm) {y : MethodName} {bytes : ByteArray} {maxL n index ci N b : Nat} {retY : Option FieldType} {wsY wsY' : List Cond} {rmY : Room} {Cn : String} {T : u_T} {As : List Value} (hM : jK (jl C) y wsY rmY (jD C) (jcy C) X (jG C) M (.ref b :: As) none X2 M2)
    (hd : decode cc pc = .ok (.invokevirtual index, 3)) (hg : GoodIn Ts (wsV own index Cn y wsY)) (hw : wsY = Cond.code y bytes maxL retY :: wsY') (hy : y.cls = Cn ∧ y.cls ≠ "java/lang/invoke/MethodHandle" ∧ y.cls ≠ "java/lang/invoke/VarHandle" ∧ (parseMethodDescriptor y.desc).map (fun d => d.parameters.length) = some n)
    (hrm : rmY.cells = 0 ∧ rmY.slots = 0 ∧ rmY.frames + 1 ≤ rm.frames ∧ 8 + (maxL + 11) + rmY.locals ≤ rm.locals) (hk : kc ≤ rm.cells ∧ ks ≤ rm.slots) (hL : b ∈ (jG C).1) (hK : (jG C).2.1 b = ci) (hcl : vwCl[ci]? = some (Cn, T, N)) (hn : As.length = n) (hst : st = As.reverse ++ .ref b :: rest) (hrest : (rest.map fun v => v.category).sum ≤ 8) (hX : X.map Prod.fst = X2.map Prod.fst)
    (kk : jW C nL (pc + 3) lv rest X2 M2 kc ks Q) : jW C nL pc lv st X M kc ks Q := j_callV E hM hd hg hw hy hrm hk hL hK hcl hn hst hrest hX kk
theorem j_callV1 (E : jE C cc nL Ts own ret rm) {y : MethodName} {bytes : ByteArray} {maxL n index ci N b : Nat} {retY : Option FieldType} {wsY wsY' : List Cond} {rmY : Room} {Cn : String} {T : u_T} {As : List Value} {v : Value} (hM : jK (jl C) y wsY rmY (jD C) (jcy C) X (jG C) M (.ref b :: As) (some v) X2 M2)
    (hd : decode cc pc = .ok (.invokevirtual index, 3)) (hg : GoodIn Ts (wsV own index Cn y wsY)) (hw : wsY = Cond.code y bytes maxL retY :: wsY') (hy : y.cls = Cn ∧ y.cls ≠ "java/lang/invoke/MethodHandle" ∧ y.cls ≠ "java/lang/invoke/VarHandle" ∧ (parseMethodDescriptor y.desc).map (fun d => d.parameters.length) = some n)
    (hrm : rmY.cells = 0 ∧ rmY.slots = 0 ∧ rmY.frames + 1 ≤ rm.frames ∧ 8 + (maxL + 11) + rmY.locals ≤ rm.locals) (hk : kc ≤ rm.cells ∧ ks ≤ rm.slots) (hL : b ∈ (jG C).1) (hK : (jG C).2.1 b = ci) (hcl : vwCl[ci]? = some (Cn, T, N)) (hn : As.length = n) (hst : st = As.reverse ++ .ref b :: rest) (hrest : (rest.map fun v => v.category).sum ≤ 8) (hX : X.map Prod.fst = X2.map Prod.fst)
    (kk : jW C nL (pc + 3) lv (v :: rest) X2 M2 kc ks Q) : jW C nL pc lv st X M kc ks Q := j_callV E hM hd hg hw hy hrm hk hL hK hcl hn hst hrest hX kk
theorem j_callS0 (E : jE C cc nL Ts own ret rm) {y : MethodName} {bytes : ByteArray} {maxL n index : Nat} {retY : Option FieldType} {wsY wsY' : List Cond} {rmY : Room} {As : List Value} (hM : jK (jl C) y wsY rmY (jD C) (jcy C) X (jG C) M As none X2 M2)
    (hd : decode cc pc = .ok (.invokestatic index, 3)) (hg : GoodIn Ts (va_wsS own index y wsY)) (hw : wsY = Cond.code y bytes maxL retY :: wsY') (hy : y.cls ≠ "java/lang/invoke/MethodHandle" ∧ y.cls ≠ "java/lang/invoke/VarHandle" ∧ (parseMethodDescriptor y.desc).map (fun d => d.parameters.length) = some n)
    (hrm : rmY.cells = 0 ∧ rmY.slots = 0 ∧ rmY.frames + 1 ≤ rm.frames ∧ 8 + (maxL + 11) + rmY.locals ≤ rm.locals) (hk : kc ≤ rm.cells ∧ ks ≤ rm.slots) (hn : As.length = n) (hst : st = As.reverse ++ rest) (hrest : (rest.map fun v => v.category).sum ≤ 8) (hX : X.map Prod.fst = X2.map Prod.fst)
    (kk : jW C nL (pc + 3) lv rest X2 M2 kc ks Q) : jW C nL pc lv st X M kc ks Q := j_callS E hM hd hg hw hy hrm hk hn hst hrest hX kk
theorem j_callS1 (E : jE C cc nL Ts own ret rm) {y : MethodName} {bytes : ByteArray} {maxL n index : Nat} {retY : Option FieldType} {wsY wsY' : List Cond} {rmY : Room} {As : List Value} {v : Value} (hM : jK (jl C) y wsY rmY (jD C) (jcy C) X (jG C) M As (some v) X2 M2)
    (hd : decode cc pc = .ok (.invokestatic index, 3)) (hg : GoodIn Ts (va_wsS own index y wsY)) (hw : wsY = Cond.code y bytes maxL retY :: wsY') (hy : y.cls ≠ "java/lang/invoke/MethodHandle" ∧ y.cls ≠ "java/lang/invoke/VarHandle" ∧ (parseMethodDescriptor y.desc).map (fun d => d.parameters.length) = some n)
    (hrm : rmY.cells = 0 ∧ rmY.slots = 0 ∧ rmY.frames + 1 ≤ rm.frames ∧ 8 + (maxL + 11) + rmY.locals ≤ rm.locals) (hk : kc ≤ rm.cells ∧ ks ≤ rm.slots) (hn : As.length = n) (hst : st = As.reverse ++ rest) (hrest : (rest.map fun v => v.category).sum ≤ 8) (hX : X.map Prod.fst = X2.map Prod.fst)
    (kk : jW C nL (pc + 3) lv (v :: rest) X2 M2 kc ks Q) : jW C nL pc lv st X M kc ks Q := j_callS E hM hd hg hw hy hrm hk hn hst hrest hX kk
end JC2
