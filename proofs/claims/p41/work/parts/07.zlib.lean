
section ZLIB
variable {p : Program} {l : Launch} {e : Env} {R : Room} {s : State} {m : MethodId} {args : Array Value} {below : List Frame} {meth : Method} {c : Code} {D : va_G} {nL : Nat} {G A : Nat → Prop} {Q : State → Prop} {ws : va_W} {lv : List (Nat × Value)} {cells slots pc : Nat} {st : List Value} {cc : ByteArray} {ret : Option FieldType} {Ts : List Cond} {own : String} {tys : List (ClassId × FieldType)}
/-- what holds at a method's start, beside its own cells: the classes, the links of nest mates, the classes of the arrays of arrays -/
def z_nests : List (String × Nat × MethodName × String) := [("FableIndex$Land", 57, ⟨"FableIndex", "size", "(I)I"⟩, "FableIndex"), ("FableIndex$Book", 34, ⟨"FableIndex", "has", "(II)Z"⟩, "FableIndex"), ("FableIndex$Land", 43, ⟨"FableIndex", "has", "(II)Z"⟩, "FableIndex"), ("FableIndex$Land", 34, ⟨"FableIndex", "turned", "(II)I"⟩, "FableIndex"), ("FableIndex$Land", 82, ⟨"FableIndex", "smallestAlone", "(I)I"⟩, "FableIndex"), ("FableIndexLaw", 101, ⟨"FableIndexLaw$Sim", "<init>", "()V"⟩, "FableIndexLaw")]
def z_E (l : Launch) (G : Nat → Prop) (D : va_G) (tys : List (ClassId × FieldType)) (U : State) : Prop :=
  va_K D vwCl tys U ∧ True ∧ (∀ q : Nat, U.heap.size ≤ q → G q) ∧ (∀ q ∈ z_nests, va_Nw (.methodLinkNest q.1 q.2.1 q.2.2.1 q.2.2.2) U) ∧ va_AOA .boolean U ∧ va_AOA .int U ∧ va_Nw (.castable "[Z" "java/lang/Cloneable") U
theorem z_E.step {U t : State} (h : z_E l G D tys U) (hW : U.WarmedH t.vm) (hsz : U.heap.size ≤ t.heap.size) (hk : ∀ q, q < U.heap.size → ¬ G q → t.heap[q]? = U.heap[q]?) : z_E l G D tys t := by
  obtain ⟨h1, h0, h2, h3, h4, h5, h6⟩ := h
  exact ⟨va_K.moved hW.alike h1, h0, fun q hq => h2 q (Nat.le_trans hsz hq), fun q hq => va_Nw.warmM hW (h3 q hq), va_AOA.moved hW.alike h4, va_AOA.moved hW.alike h5, va_Nw.warmC hW h6⟩
theorem z_E.calling {U : State} (h : z_E l G D tys U) (g : JFrame) (mk : MethodId) (a : Array Value) : z_E l G D tys (U.calling g mk a) := h.step (State.WarmedH.refl U) (Nat.le_refl _) (fun _ _ _ => rfl)
/-- the machine, the method and its words, the classes: what stays all through a method -/
def z_K (p : Program) (l : Launch) (s : State) (m : MethodId) (args : Array Value) (meth : Method) (c : Code) (G A : Nat → Prop) (D : va_G) (tys : List (ClassId × FieldType)) (cc : ByteArray) (nL : Nat) (ret : Option FieldType) (Ts : List Cond) (own : String) : Prop :=
  p.tables.exec = Jvm.exec ∧ c.code = cc ∧ c.maxLocals = nL ∧ s.vm.findClass own = some m.cls ∧ (∀ w ∈ Ts, w.before args s = true) ∧ va_K D vwCl tys s ∧ meth.sig.returnType = ret ∧ meth.locks = false ∧ z_E l G D tys s ∧ (∀ q, A q → G q) ∧ (∀ q : Nat, s.heap.size ≤ q → A q)
/-- the machine comes to Q from every heap that holds the cells ws, at pc, with locals lv and stack st -/
def Z (p : Program) (l : Launch) (e : Env) (R : Room) (s : State) (m : MethodId) (args : Array Value) (below : List Frame) (meth : Method) (c : Code) (D : va_G) (nL : Nat) (G A : Nat → Prop) (Q : State → Prop) (ws : va_W) (lv : List (Nat × Value)) (cells slots pc : Nat) (st : List Value) : Prop :=
  ∀ (H : Heap) (locs : List Loc) (ls : Array Slot), va_P D vwCl ws H → va_D G ws → va_S A s.heap H locs → lv_has ls nL lv → W p l e R s m args below meth c H locs cells slots Q (F0 m pc ls st)
theorem z_lv {lv' : List (Nat × Value)} (ks : List Nat) (h : lv_pick lv ks = lv') (k : Z p l e R s m args below meth c D nL G A Q ws lv' cells slots pc st) : Z p l e R s m args below meth c D nL G A Q ws lv cells slots pc st := fun H locs ls hP hD hS hl => k H locs ls hP hD hS (lv_sub hl ks h)
theorem z_widen {k n : Nat} (h1 : cells ≤ k) (h2 : slots ≤ n) (kk : Z p l e R s m args below meth c D nL G A Q ws lv k n pc st) : Z p l e R s m args below meth c D nL G A Q ws lv cells slots pc st := fun H locs ls hP hD hS hl => W.widen h1 h2 (kk H locs ls hP hD hS hl)
theorem z_sub {ws' : va_W} (is : List Nat) (hn : va_nd is = true) (h : is.map (fun i => ws[i]?) = ws'.map some) (k : Z p l e R s m args below meth c D nL G A Q ws' lv cells slots pc st) : Z p l e R s m args below meth c D nL G A Q ws lv cells slots pc st := fun H locs ls hP hD hS hl => k H locs ls (hP.sub is (by
  have : is.filterMap (fun i => ws[i]?) = (is.map (fun i => ws[i]?)).filterMap id := by rw [List.filterMap_map]; rfl
  rw [this, h, List.filterMap_map]; exact List.filterMap_some)) (hD.sub is hn h) hS hl

theorem z_iconst (K : z_K p l s m args meth c G A D tys cc nL ret Ts own) {n : Int} {v : Int32} (hdg : decode cc pc = .ok (.iconst n, 1)) (hv : Int32.ofInt n = v) (kk : Z p l e R s m args below meth c D nL G A Q ws lv cells slots (pc + 1) (.int v :: st)) : Z p l e R s m args below meth c D nL G A Q ws lv cells slots pc st := fun H locs ls hP hD hS hl => lv_iconst K.1 K.2.1 hdg hv (kk H locs ls hP hD hS hl)
theorem z_bipush (K : z_K p l s m args meth c G A D tys cc nL ret Ts own) {n : Int} {v : Int32} (hdg : decode cc pc = .ok (.bipush n, 2)) (hv : (Int8.ofInt n).toInt32 = v) (kk : Z p l e R s m args below meth c D nL G A Q ws lv cells slots (pc + 2) (.int v :: st)) : Z p l e R s m args below meth c D nL G A Q ws lv cells slots pc st := fun H locs ls hP hD hS hl => lv_bipush K.1 K.2.1 hdg hv (kk H locs ls hP hD hS hl)
theorem z_lconst (K : z_K p l s m args meth c G A D tys cc nL ret Ts own) {n : Fin 2} {v : Int64} (hdg : decode cc pc = .ok (.lconst n, 1)) (hv : Int64.ofNat (n : Nat) = v) (kk : Z p l e R s m args below meth c D nL G A Q ws lv cells slots (pc + 1) (.long v :: st)) : Z p l e R s m args below meth c D nL G A Q ws lv cells slots pc st := fun H locs ls hP hD hS hl => lv_lconst K.1 K.2.1 hdg hv (kk H locs ls hP hD hS hl)
theorem z_ldc (K : z_K p l s m args meth c G A D tys cc nL ret Ts own) {index : Nat} {v : Int32} (hdg : decode cc pc = .ok (.ldc index, 2)) (hw : Cond.constant own index v ∈ Ts) (kk : Z p l e R s m args below meth c D nL G A Q ws lv cells slots (pc + 2) (.int v :: st)) : Z p l e R s m args below meth c D nL G A Q ws lv cells slots pc st := fun H locs ls hP hD hS hl => lv_ldc K.1 K.2.1 K.2.2.2.1 (K.2.2.2.2.1 _ hw) hdg (kk H locs ls hP hD hS hl)
theorem z_ldcw (K : z_K p l s m args meth c G A D tys cc nL ret Ts own) {index : Nat} {v : Int32} (hdg : decode cc pc = .ok (.ldc_w index, 3)) (hw : Cond.constant own index v ∈ Ts) (kk : Z p l e R s m args below meth c D nL G A Q ws lv cells slots (pc + 3) (.int v :: st)) : Z p l e R s m args below meth c D nL G A Q ws lv cells slots pc st := fun H locs ls hP hD hS hl => lv_ldcw K.1 K.2.1 K.2.2.2.1 (K.2.2.2.2.1 _ hw) hdg (kk H locs ls hP hD hS hl)
theorem z_ldc2 (K : z_K p l s m args meth c G A D tys cc nL ret Ts own) {index : Nat} {v : Int64} (hdg : decode cc pc = .ok (.ldc2_w index, 3)) (hw : Cond.constantLong own index v ∈ Ts) (kk : Z p l e R s m args below meth c D nL G A Q ws lv cells slots (pc + 3) (.long v :: st)) : Z p l e R s m args below meth c D nL G A Q ws lv cells slots pc st := fun H locs ls hP hD hS hl => lv_ldc2 K.1 K.2.1 K.2.2.2.1 (K.2.2.2.2.1 _ hw) hdg (kk H locs ls hP hD hS hl)
theorem z_iload_n (K : z_K p l s m args meth c G A D tys cc nL ret Ts own) (j : Nat) {k : Fin 4} {x : Int32} (hdg : decode cc pc = .ok (.iload_n k, 1)) (hv : lv[j]? = some ((k : Nat), .int x)) (kk : Z p l e R s m args below meth c D nL G A Q ws lv cells slots (pc + 1) (.int x :: st)) : Z p l e R s m args below meth c D nL G A Q ws lv cells slots pc st := fun H locs ls hP hD hS hl => lv_iload_n K.1 K.2.1 hdg rfl (lv_at hl j hv) (kk H locs ls hP hD hS hl)
theorem z_iload (K : z_K p l s m args meth c G A D tys cc nL ret Ts own) (j : Nat) {i : Nat} {x : Int32} (hdg : decode cc pc = .ok (.iload i, 2)) (hv : lv[j]? = some (i, .int x)) (kk : Z p l e R s m args below meth c D nL G A Q ws lv cells slots (pc + 2) (.int x :: st)) : Z p l e R s m args below meth c D nL G A Q ws lv cells slots pc st := fun H locs ls hP hD hS hl => lv_iload K.1 K.2.1 hdg (lv_at hl j hv) (kk H locs ls hP hD hS hl)
theorem z_lload_n (K : z_K p l s m args meth c G A D tys cc nL ret Ts own) (j : Nat) {k : Fin 4} {x : Int64} (hdg : decode cc pc = .ok (.lload_n k, 1)) (hv : lv[j]? = some ((k : Nat), .long x)) (kk : Z p l e R s m args below meth c D nL G A Q ws lv cells slots (pc + 1) (.long x :: st)) : Z p l e R s m args below meth c D nL G A Q ws lv cells slots pc st := fun H locs ls hP hD hS hl => lv_lload_n K.1 K.2.1 hdg rfl (lv_at hl j hv) (kk H locs ls hP hD hS hl)
theorem z_lload (K : z_K p l s m args meth c G A D tys cc nL ret Ts own) (j : Nat) {i : Nat} {x : Int64} (hdg : decode cc pc = .ok (.lload i, 2)) (hv : lv[j]? = some (i, .long x)) (kk : Z p l e R s m args below meth c D nL G A Q ws lv cells slots (pc + 2) (.long x :: st)) : Z p l e R s m args below meth c D nL G A Q ws lv cells slots pc st := fun H locs ls hP hD hS hl => lv_lload K.1 K.2.1 hdg (lv_at hl j hv) (kk H locs ls hP hD hS hl)
theorem z_dload_n (K : z_K p l s m args meth c G A D tys cc nL ret Ts own) (j : Nat) {k : Fin 4} {x : UInt64} (hdg : decode cc pc = .ok (.dload_n k, 1)) (hv : lv[j]? = some ((k : Nat), .double x)) (kk : Z p l e R s m args below meth c D nL G A Q ws lv cells slots (pc + 1) (.double x :: st)) : Z p l e R s m args below meth c D nL G A Q ws lv cells slots pc st := fun H locs ls hP hD hS hl => lv_dload_n K.1 K.2.1 hdg rfl (lv_at hl j hv) (kk H locs ls hP hD hS hl)
theorem z_dload (K : z_K p l s m args meth c G A D tys cc nL ret Ts own) (j : Nat) {i : Nat} {x : UInt64} (hdg : decode cc pc = .ok (.dload i, 2)) (hv : lv[j]? = some (i, .double x)) (kk : Z p l e R s m args below meth c D nL G A Q ws lv cells slots (pc + 2) (.double x :: st)) : Z p l e R s m args below meth c D nL G A Q ws lv cells slots pc st := fun H locs ls hP hD hS hl => lv_dload K.1 K.2.1 hdg (lv_at hl j hv) (kk H locs ls hP hD hS hl)
theorem z_aload_n (K : z_K p l s m args meth c G A D tys cc nL ret Ts own) (j : Nat) {k : Fin 4} {x : Nat} (hdg : decode cc pc = .ok (.aload_n k, 1)) (hv : lv[j]? = some ((k : Nat), .ref x)) (kk : Z p l e R s m args below meth c D nL G A Q ws lv cells slots (pc + 1) (.ref x :: st)) : Z p l e R s m args below meth c D nL G A Q ws lv cells slots pc st := fun H locs ls hP hD hS hl => lv_aload_n K.1 K.2.1 hdg rfl (lv_at hl j hv) (kk H locs ls hP hD hS hl)
theorem z_aload (K : z_K p l s m args meth c G A D tys cc nL ret Ts own) (j : Nat) {i : Nat} {x : Nat} (hdg : decode cc pc = .ok (.aload i, 2)) (hv : lv[j]? = some (i, .ref x)) (kk : Z p l e R s m args below meth c D nL G A Q ws lv cells slots (pc + 2) (.ref x :: st)) : Z p l e R s m args below meth c D nL G A Q ws lv cells slots pc st := fun H locs ls hP hD hS hl => lv_aload K.1 K.2.1 hdg (lv_at hl j hv) (kk H locs ls hP hD hS hl)
theorem z_istore_n (K : z_K p l s m args meth c G A D tys cc nL ret Ts own) {k : Fin 4} {x : Int32} {lv' : List (Nat × Value)} (hdg : decode cc pc = .ok (.istore_n k, 1)) (hn : (k : Nat) < nL) (hf : ((k : Nat), Value.int x) :: lv.filter (fun q => !(q.1 == (k : Nat)) && !(q.1 + 1 == (k : Nat) && q.2.category == 2)) = lv') (kk : Z p l e R s m args below meth c D nL G A Q ws lv' cells slots (pc + 1) st) : Z p l e R s m args below meth c D nL G A Q ws lv cells slots pc (.int x :: st) := fun H locs ls hP hD hS hl => lv_istore_n K.1 K.2.1 hdg rfl hl hn hf (fun ls9 h9 => kk H locs ls9 hP hD hS h9)
theorem z_istore (K : z_K p l s m args meth c G A D tys cc nL ret Ts own) {i : Nat} {x : Int32} {lv' : List (Nat × Value)} (hdg : decode cc pc = .ok (.istore i, 2)) (hn : i < nL) (hf : (i, Value.int x) :: lv.filter (fun q => !(q.1 == i) && !(q.1 + 1 == i && q.2.category == 2)) = lv') (kk : Z p l e R s m args below meth c D nL G A Q ws lv' cells slots (pc + 2) st) : Z p l e R s m args below meth c D nL G A Q ws lv cells slots pc (.int x :: st) := fun H locs ls hP hD hS hl => lv_istore K.1 K.2.1 hdg hl hn hf (fun ls9 h9 => kk H locs ls9 hP hD hS h9)
theorem z_lstore_n (K : z_K p l s m args meth c G A D tys cc nL ret Ts own) {k : Fin 4} {x : Int64} {lv' : List (Nat × Value)} (hdg : decode cc pc = .ok (.lstore_n k, 1)) (hn : (k : Nat) + 1 < nL) (hf : ((k : Nat), Value.long x) :: lv.filter (fun q => !(q.1 == (k : Nat)) && (!(q.1 == (k : Nat) + 1) && !(q.1 + 1 == (k : Nat) && q.2.category == 2))) = lv') (kk : Z p l e R s m args below meth c D nL G A Q ws lv' cells slots (pc + 1) st) : Z p l e R s m args below meth c D nL G A Q ws lv cells slots pc (.long x :: st) := fun H locs ls hP hD hS hl => lv_lstore_n K.1 K.2.1 hdg rfl hl hn hf (fun ls9 h9 => kk H locs ls9 hP hD hS h9)
theorem z_lstore (K : z_K p l s m args meth c G A D tys cc nL ret Ts own) {i : Nat} {x : Int64} {lv' : List (Nat × Value)} (hdg : decode cc pc = .ok (.lstore i, 2)) (hn : i + 1 < nL) (hf : (i, Value.long x) :: lv.filter (fun q => !(q.1 == i) && (!(q.1 == i + 1) && !(q.1 + 1 == i && q.2.category == 2))) = lv') (kk : Z p l e R s m args below meth c D nL G A Q ws lv' cells slots (pc + 2) st) : Z p l e R s m args below meth c D nL G A Q ws lv cells slots pc (.long x :: st) := fun H locs ls hP hD hS hl => lv_lstore K.1 K.2.1 hdg hl hn hf (fun ls9 h9 => kk H locs ls9 hP hD hS h9)
theorem z_dstore_n (K : z_K p l s m args meth c G A D tys cc nL ret Ts own) {k : Fin 4} {x : UInt64} {lv' : List (Nat × Value)} (hdg : decode cc pc = .ok (.dstore_n k, 1)) (hn : (k : Nat) + 1 < nL) (hf : ((k : Nat), Value.double x) :: lv.filter (fun q => !(q.1 == (k : Nat)) && (!(q.1 == (k : Nat) + 1) && !(q.1 + 1 == (k : Nat) && q.2.category == 2))) = lv') (kk : Z p l e R s m args below meth c D nL G A Q ws lv' cells slots (pc + 1) st) : Z p l e R s m args below meth c D nL G A Q ws lv cells slots pc (.double x :: st) := fun H locs ls hP hD hS hl => lv_dstore_n K.1 K.2.1 hdg rfl hl hn hf (fun ls9 h9 => kk H locs ls9 hP hD hS h9)
theorem z_dstore (K : z_K p l s m args meth c G A D tys cc nL ret Ts own) {i : Nat} {x : UInt64} {lv' : List (Nat × Value)} (hdg : decode cc pc = .ok (.dstore i, 2)) (hn : i + 1 < nL) (hf : (i, Value.double x) :: lv.filter (fun q => !(q.1 == i) && (!(q.1 == i + 1) && !(q.1 + 1 == i && q.2.category == 2))) = lv') (kk : Z p l e R s m args below meth c D nL G A Q ws lv' cells slots (pc + 2) st) : Z p l e R s m args below meth c D nL G A Q ws lv cells slots pc (.double x :: st) := fun H locs ls hP hD hS hl => lv_dstore K.1 K.2.1 hdg hl hn hf (fun ls9 h9 => kk H locs ls9 hP hD hS h9)
theorem z_astore_n (K : z_K p l s m args meth c G A D tys cc nL ret Ts own) {k : Fin 4} {x : Nat} {lv' : List (Nat × Value)} (hdg : decode cc pc = .ok (.astore_n k, 1)) (hn : (k : Nat) < nL) (hf : ((k : Nat), Value.ref x) :: lv.filter (fun q => !(q.1 == (k : Nat)) && !(q.1 + 1 == (k : Nat) && q.2.category == 2)) = lv') (kk : Z p l e R s m args below meth c D nL G A Q ws lv' cells slots (pc + 1) st) : Z p l e R s m args below meth c D nL G A Q ws lv cells slots pc (.ref x :: st) := fun H locs ls hP hD hS hl => lv_astore_n K.1 K.2.1 hdg rfl hl hn hf (fun ls9 h9 => kk H locs ls9 hP hD hS h9)
theorem z_astore (K : z_K p l s m args meth c G A D tys cc nL ret Ts own) {i : Nat} {x : Nat} {lv' : List (Nat × Value)} (hdg : decode cc pc = .ok (.astore i, 2)) (hn : i < nL) (hf : (i, Value.ref x) :: lv.filter (fun q => !(q.1 == i) && !(q.1 + 1 == i && q.2.category == 2)) = lv') (kk : Z p l e R s m args below meth c D nL G A Q ws lv' cells slots (pc + 2) st) : Z p l e R s m args below meth c D nL G A Q ws lv cells slots pc (.ref x :: st) := fun H locs ls hP hD hS hl => lv_astore K.1 K.2.1 hdg hl hn hf (fun ls9 h9 => kk H locs ls9 hP hD hS h9)
theorem z_iinc (K : z_K p l s m args meth c G A D tys cc nL ret Ts own) (j : Nat) {i : Nat} {n : Int} {x v : Int32} {lv' : List (Nat × Value)} (hdg : decode cc pc = .ok (.iinc i n, 3)) (hv : lv[j]? = some (i, .int x)) (hx : x + Int32.ofInt n = v) (hn : i < nL) (hf : (i, Value.int v) :: lv.filter (fun q => !(q.1 == i) && !(q.1 + 1 == i && q.2.category == 2)) = lv') (kk : Z p l e R s m args below meth c D nL G A Q ws lv' cells slots (pc + 3) st) : Z p l e R s m args below meth c D nL G A Q ws lv cells slots pc st := fun H locs ls hP hD hS hl => lv_iinc K.1 K.2.1 hdg hl (k := j) hv hx hn hf (fun ls9 h9 => kk H locs ls9 hP hD hS h9)
theorem z_iadd (K : z_K p l s m args meth c G A D tys cc nL ret Ts own) {x y : Int32} (hdg : decode cc pc = .ok (.iadd, 1)) (kk : Z p l e R s m args below meth c D nL G A Q ws lv cells slots (pc + 1) (.int (x + y) :: st)) : Z p l e R s m args below meth c D nL G A Q ws lv cells slots pc (.int y :: .int x :: st) := fun H locs ls hP hD hS hl => lv_iadd K.1 K.2.1 hdg (kk H locs ls hP hD hS hl)
theorem z_isub (K : z_K p l s m args meth c G A D tys cc nL ret Ts own) {x y : Int32} (hdg : decode cc pc = .ok (.isub, 1)) (kk : Z p l e R s m args below meth c D nL G A Q ws lv cells slots (pc + 1) (.int (x - y) :: st)) : Z p l e R s m args below meth c D nL G A Q ws lv cells slots pc (.int y :: .int x :: st) := fun H locs ls hP hD hS hl => lv_isub K.1 K.2.1 hdg (kk H locs ls hP hD hS hl)
theorem z_imul (K : z_K p l s m args meth c G A D tys cc nL ret Ts own) {x y : Int32} (hdg : decode cc pc = .ok (.imul, 1)) (kk : Z p l e R s m args below meth c D nL G A Q ws lv cells slots (pc + 1) (.int (x * y) :: st)) : Z p l e R s m args below meth c D nL G A Q ws lv cells slots pc (.int y :: .int x :: st) := fun H locs ls hP hD hS hl => lv_imul K.1 K.2.1 hdg (kk H locs ls hP hD hS hl)
theorem z_ior (K : z_K p l s m args meth c G A D tys cc nL ret Ts own) {x y : Int32} (hdg : decode cc pc = .ok (.ior, 1)) (kk : Z p l e R s m args below meth c D nL G A Q ws lv cells slots (pc + 1) (.int (x ||| y) :: st)) : Z p l e R s m args below meth c D nL G A Q ws lv cells slots pc (.int y :: .int x :: st) := fun H locs ls hP hD hS hl => lv_ior K.1 K.2.1 hdg (kk H locs ls hP hD hS hl)
theorem z_iand (K : z_K p l s m args meth c G A D tys cc nL ret Ts own) {x y : Int32} (hdg : decode cc pc = .ok (.iand, 1)) (kk : Z p l e R s m args below meth c D nL G A Q ws lv cells slots (pc + 1) (.int (x &&& y) :: st)) : Z p l e R s m args below meth c D nL G A Q ws lv cells slots pc (.int y :: .int x :: st) := fun H locs ls hP hD hS hl => lv_iand K.1 K.2.1 hdg (kk H locs ls hP hD hS hl)
theorem z_ixor (K : z_K p l s m args meth c G A D tys cc nL ret Ts own) {x y : Int32} (hdg : decode cc pc = .ok (.ixor, 1)) (kk : Z p l e R s m args below meth c D nL G A Q ws lv cells slots (pc + 1) (.int (x ^^^ y) :: st)) : Z p l e R s m args below meth c D nL G A Q ws lv cells slots pc (.int y :: .int x :: st) := fun H locs ls hP hD hS hl => lv_ixor K.1 K.2.1 hdg (kk H locs ls hP hD hS hl)
theorem z_ishl (K : z_K p l s m args meth c G A D tys cc nL ret Ts own) {x y : Int32} (hdg : decode cc pc = .ok (.ishl, 1)) (kk : Z p l e R s m args below meth c D nL G A Q ws lv cells slots (pc + 1) (.int (x <<< (y &&& 31)) :: st)) : Z p l e R s m args below meth c D nL G A Q ws lv cells slots pc (.int y :: .int x :: st) := fun H locs ls hP hD hS hl => lv_ishl K.1 K.2.1 hdg (kk H locs ls hP hD hS hl)
theorem z_ishr (K : z_K p l s m args meth c G A D tys cc nL ret Ts own) {x y : Int32} (hdg : decode cc pc = .ok (.ishr, 1)) (kk : Z p l e R s m args below meth c D nL G A Q ws lv cells slots (pc + 1) (.int (x >>> (y &&& 31)) :: st)) : Z p l e R s m args below meth c D nL G A Q ws lv cells slots pc (.int y :: .int x :: st) := fun H locs ls hP hD hS hl => lv_ishr K.1 K.2.1 hdg (kk H locs ls hP hD hS hl)
theorem z_iushr (K : z_K p l s m args meth c G A D tys cc nL ret Ts own) {x y v : Int32} (hdg : decode cc pc = .ok (.iushr, 1)) (hv : (x.toUInt32 >>> (y.toUInt32 &&& Int32.toUInt32 31)).toInt32 = v) (kk : Z p l e R s m args below meth c D nL G A Q ws lv cells slots (pc + 1) (.int v :: st)) : Z p l e R s m args below meth c D nL G A Q ws lv cells slots pc (.int y :: .int x :: st) := fun H locs ls hP hD hS hl => lv_iushr K.1 K.2.1 hdg hv (kk H locs ls hP hD hS hl)
theorem z_ineg (K : z_K p l s m args meth c G A D tys cc nL ret Ts own) {x : Int32} (hdg : decode cc pc = .ok (.ineg, 1)) (kk : Z p l e R s m args below meth c D nL G A Q ws lv cells slots (pc + 1) (.int (-x) :: st)) : Z p l e R s m args below meth c D nL G A Q ws lv cells slots pc (.int x :: st) := fun H locs ls hP hD hS hl => lv_ineg K.1 K.2.1 hdg (kk H locs ls hP hD hS hl)
theorem z_ladd (K : z_K p l s m args meth c G A D tys cc nL ret Ts own) {x y : Int64} (hdg : decode cc pc = .ok (.ladd, 1)) (kk : Z p l e R s m args below meth c D nL G A Q ws lv cells slots (pc + 1) (.long (x + y) :: st)) : Z p l e R s m args below meth c D nL G A Q ws lv cells slots pc (.long y :: .long x :: st) := fun H locs ls hP hD hS hl => lv_ladd K.1 K.2.1 hdg (kk H locs ls hP hD hS hl)
theorem z_lmul (K : z_K p l s m args meth c G A D tys cc nL ret Ts own) {x y : Int64} (hdg : decode cc pc = .ok (.lmul, 1)) (kk : Z p l e R s m args below meth c D nL G A Q ws lv cells slots (pc + 1) (.long (x * y) :: st)) : Z p l e R s m args below meth c D nL G A Q ws lv cells slots pc (.long y :: .long x :: st) := fun H locs ls hP hD hS hl => lv_lmul K.1 K.2.1 hdg (kk H locs ls hP hD hS hl)
theorem z_i2l (K : z_K p l s m args meth c G A D tys cc nL ret Ts own) {x : Int32} (hdg : decode cc pc = .ok (.i2l, 1)) (kk : Z p l e R s m args below meth c D nL G A Q ws lv cells slots (pc + 1) (.long x.toInt64 :: st)) : Z p l e R s m args below meth c D nL G A Q ws lv cells slots pc (.int x :: st) := fun H locs ls hP hD hS hl => lv_i2l K.1 K.2.1 hdg rfl (kk H locs ls hP hD hS hl)
theorem z_i2d (K : z_K p l s m args meth c G A D tys cc nL ret Ts own) {x : Int32} (hdg : decode cc pc = .ok (.i2d, 1)) (kk : Z p l e R s m args below meth c D nL G A Q ws lv cells slots (pc + 1) (.double (FP.i2d x) :: st)) : Z p l e R s m args below meth c D nL G A Q ws lv cells slots pc (.int x :: st) := fun H locs ls hP hD hS hl => lv_i2d K.1 K.2.1 hdg (kk H locs ls hP hD hS hl)
theorem z_ddiv (K : z_K p l s m args meth c G A D tys cc nL ret Ts own) {x y : UInt64} (hdg : decode cc pc = .ok (.ddiv, 1)) (hne : vf_n64 (FP.ddiv x y)) (kk : Z p l e R s m args below meth c D nL G A Q ws lv cells slots (pc + 1) (.double (FP.ddiv x y) :: st)) : Z p l e R s m args below meth c D nL G A Q ws lv cells slots pc (.double y :: .double x :: st) := fun H locs ls hP hD hS hl => lv_ddiv K.1 K.2.1 hdg hne (kk H locs ls hP hD hS hl)
theorem z_lcmp (K : z_K p l s m args meth c G A D tys cc nL ret Ts own) {x y : Int64} (hdg : decode cc pc = .ok (.lcmp, 1)) (kk : Z p l e R s m args below meth c D nL G A Q ws lv cells slots (pc + 1) (.int (lg_cmp x y) :: st)) : Z p l e R s m args below meth c D nL G A Q ws lv cells slots pc (.long y :: .long x :: st) := fun H locs ls hP hD hS hl => W.lcmp K.1 K.2.1 hdg (kk H locs ls hP hD hS hl)
theorem z_dcmp (K : z_K p l s m args meth c G A D tys cc nL ret Ts own) {x y : UInt64} {op : CmpOp} (hdg : decode cc pc = .ok (.dcmp op, 1)) (kk : Z p l e R s m args below meth c D nL G A Q ws lv cells slots (pc + 1) (.int (Op.cmpValue (FP.dcmp x y) op) :: st)) : Z p l e R s m args below meth c D nL G A Q ws lv cells slots pc (.double y :: .double x :: st) := fun H locs ls hP hD hS hl => lv_dcmp K.1 K.2.1 hdg (kk H locs ls hP hD hS hl)
theorem z_dup (K : z_K p l s m args meth c G A D tys cc nL ret Ts own) {va : Value} (hdg : decode cc pc = .ok (.dup, 1)) (hva : va.category = 1) (kk : Z p l e R s m args below meth c D nL G A Q ws lv cells slots (pc + 1) (va :: va :: st)) : Z p l e R s m args below meth c D nL G A Q ws lv cells slots pc (va :: st) := fun H locs ls hP hD hS hl => lv_dup K.1 K.2.1 hdg hva (kk H locs ls hP hD hS hl)
theorem z_pop (K : z_K p l s m args meth c G A D tys cc nL ret Ts own) {va : Value} (hdg : decode cc pc = .ok (.pop, 1)) (hva : va.category = 1) (kk : Z p l e R s m args below meth c D nL G A Q ws lv cells slots (pc + 1) st) : Z p l e R s m args below meth c D nL G A Q ws lv cells slots pc (va :: st) := fun H locs ls hP hD hS hl => lv_pop K.1 K.2.1 hdg hva (kk H locs ls hP hD hS hl)
theorem z_goto (K : z_K p l s m args meth c G A D tys cc nL ret Ts own) {off : Int} (tgt : Nat) (hdg : decode cc pc = .ok (.goto off, 3)) (ht : (pc : Int) + off = (tgt : Int)) (kk : Z p l e R s m args below meth c D nL G A Q ws lv cells slots tgt st) : Z p l e R s m args below meth c D nL G A Q ws lv cells slots pc st := fun H locs ls hP hD hS hl => lv_goto K.1 K.2.1 hdg ht (kk H locs ls hP hD hS hl)
theorem z_if_eq (K : z_K p l s m args meth c G A D tys cc nL ret Ts own) {off : Int} {x : Int32} (tgt : Nat) (hdg : decode cc pc = .ok (.ifCond .eq off, 3)) (ht : (pc : Int) + off = (tgt : Int)) (kt : x = 0 → Z p l e R s m args below meth c D nL G A Q ws lv cells slots tgt st) (kf : ¬ x = 0 → Z p l e R s m args below meth c D nL G A Q ws lv cells slots (pc + 3) st) : Z p l e R s m args below meth c D nL G A Q ws lv cells slots pc (.int x :: st) := fun H locs ls hP hD hS hl => lv_if_eq K.1 K.2.1 hdg ht (fun h => kt h H locs ls hP hD hS hl) (fun h => kf h H locs ls hP hD hS hl)
theorem z_if_ne (K : z_K p l s m args meth c G A D tys cc nL ret Ts own) {off : Int} {x : Int32} (tgt : Nat) (hdg : decode cc pc = .ok (.ifCond .ne off, 3)) (ht : (pc : Int) + off = (tgt : Int)) (kt : ¬ x = 0 → Z p l e R s m args below meth c D nL G A Q ws lv cells slots tgt st) (kf : x = 0 → Z p l e R s m args below meth c D nL G A Q ws lv cells slots (pc + 3) st) : Z p l e R s m args below meth c D nL G A Q ws lv cells slots pc (.int x :: st) := fun H locs ls hP hD hS hl => lv_if_ne K.1 K.2.1 hdg ht (fun h => kt h H locs ls hP hD hS hl) (fun h => kf h H locs ls hP hD hS hl)
theorem z_if_lt (K : z_K p l s m args meth c G A D tys cc nL ret Ts own) {off : Int} {x : Int32} (tgt : Nat) (hdg : decode cc pc = .ok (.ifCond .lt off, 3)) (ht : (pc : Int) + off = (tgt : Int)) (kt : x < 0 → Z p l e R s m args below meth c D nL G A Q ws lv cells slots tgt st) (kf : ¬ x < 0 → Z p l e R s m args below meth c D nL G A Q ws lv cells slots (pc + 3) st) : Z p l e R s m args below meth c D nL G A Q ws lv cells slots pc (.int x :: st) := fun H locs ls hP hD hS hl => lv_if_lt K.1 K.2.1 hdg ht (fun h => kt h H locs ls hP hD hS hl) (fun h => kf h H locs ls hP hD hS hl)
theorem z_if_le (K : z_K p l s m args meth c G A D tys cc nL ret Ts own) {off : Int} {x : Int32} (tgt : Nat) (hdg : decode cc pc = .ok (.ifCond .le off, 3)) (ht : (pc : Int) + off = (tgt : Int)) (kt : x ≤ 0 → Z p l e R s m args below meth c D nL G A Q ws lv cells slots tgt st) (kf : ¬ x ≤ 0 → Z p l e R s m args below meth c D nL G A Q ws lv cells slots (pc + 3) st) : Z p l e R s m args below meth c D nL G A Q ws lv cells slots pc (.int x :: st) := fun H locs ls hP hD hS hl => lv_if_le K.1 K.2.1 hdg ht (fun h => kt h H locs ls hP hD hS hl) (fun h => kf h H locs ls hP hD hS hl)
theorem z_if_gt (K : z_K p l s m args meth c G A D tys cc nL ret Ts own) {off : Int} {x : Int32} (tgt : Nat) (hdg : decode cc pc = .ok (.ifCond .gt off, 3)) (ht : (pc : Int) + off = (tgt : Int)) (kt : 0 < x → Z p l e R s m args below meth c D nL G A Q ws lv cells slots tgt st) (kf : ¬ 0 < x → Z p l e R s m args below meth c D nL G A Q ws lv cells slots (pc + 3) st) : Z p l e R s m args below meth c D nL G A Q ws lv cells slots pc (.int x :: st) := fun H locs ls hP hD hS hl => lv_if_gt K.1 K.2.1 hdg ht (fun h => kt h H locs ls hP hD hS hl) (fun h => kf h H locs ls hP hD hS hl)
theorem z_if_ge (K : z_K p l s m args meth c G A D tys cc nL ret Ts own) {off : Int} {x : Int32} (tgt : Nat) (hdg : decode cc pc = .ok (.ifCond .ge off, 3)) (ht : (pc : Int) + off = (tgt : Int)) (kt : 0 ≤ x → Z p l e R s m args below meth c D nL G A Q ws lv cells slots tgt st) (kf : ¬ 0 ≤ x → Z p l e R s m args below meth c D nL G A Q ws lv cells slots (pc + 3) st) : Z p l e R s m args below meth c D nL G A Q ws lv cells slots pc (.int x :: st) := fun H locs ls hP hD hS hl => lv_if_ge K.1 K.2.1 hdg ht (fun h => kt h H locs ls hP hD hS hl) (fun h => kf h H locs ls hP hD hS hl)
theorem z_icmp_eq (K : z_K p l s m args meth c G A D tys cc nL ret Ts own) {off : Int} {x y : Int32} (tgt : Nat) (hdg : decode cc pc = .ok (.if_icmp .eq off, 3)) (ht : (pc : Int) + off = (tgt : Int)) (kt : x = y → Z p l e R s m args below meth c D nL G A Q ws lv cells slots tgt st) (kf : ¬ x = y → Z p l e R s m args below meth c D nL G A Q ws lv cells slots (pc + 3) st) : Z p l e R s m args below meth c D nL G A Q ws lv cells slots pc (.int y :: .int x :: st) := fun H locs ls hP hD hS hl => lv_icmp_eq K.1 K.2.1 hdg ht (fun h => kt h H locs ls hP hD hS hl) (fun h => kf h H locs ls hP hD hS hl)
theorem z_icmp_ne (K : z_K p l s m args meth c G A D tys cc nL ret Ts own) {off : Int} {x y : Int32} (tgt : Nat) (hdg : decode cc pc = .ok (.if_icmp .ne off, 3)) (ht : (pc : Int) + off = (tgt : Int)) (kt : ¬ x = y → Z p l e R s m args below meth c D nL G A Q ws lv cells slots tgt st) (kf : x = y → Z p l e R s m args below meth c D nL G A Q ws lv cells slots (pc + 3) st) : Z p l e R s m args below meth c D nL G A Q ws lv cells slots pc (.int y :: .int x :: st) := fun H locs ls hP hD hS hl => lv_icmp_ne K.1 K.2.1 hdg ht (fun h => kt h H locs ls hP hD hS hl) (fun h => kf h H locs ls hP hD hS hl)
theorem z_icmp_lt (K : z_K p l s m args meth c G A D tys cc nL ret Ts own) {off : Int} {x y : Int32} (tgt : Nat) (hdg : decode cc pc = .ok (.if_icmp .lt off, 3)) (ht : (pc : Int) + off = (tgt : Int)) (kt : x < y → Z p l e R s m args below meth c D nL G A Q ws lv cells slots tgt st) (kf : ¬ x < y → Z p l e R s m args below meth c D nL G A Q ws lv cells slots (pc + 3) st) : Z p l e R s m args below meth c D nL G A Q ws lv cells slots pc (.int y :: .int x :: st) := fun H locs ls hP hD hS hl => lv_icmp_lt K.1 K.2.1 hdg ht (fun h => kt h H locs ls hP hD hS hl) (fun h => kf h H locs ls hP hD hS hl)
theorem z_icmp_ge (K : z_K p l s m args meth c G A D tys cc nL ret Ts own) {off : Int} {x y : Int32} (tgt : Nat) (hdg : decode cc pc = .ok (.if_icmp .ge off, 3)) (ht : (pc : Int) + off = (tgt : Int)) (kt : y ≤ x → Z p l e R s m args below meth c D nL G A Q ws lv cells slots tgt st) (kf : ¬ y ≤ x → Z p l e R s m args below meth c D nL G A Q ws lv cells slots (pc + 3) st) : Z p l e R s m args below meth c D nL G A Q ws lv cells slots pc (.int y :: .int x :: st) := fun H locs ls hP hD hS hl => lv_icmp_ge K.1 K.2.1 hdg ht (fun h => kt h H locs ls hP hD hS hl) (fun h => kf h H locs ls hP hD hS hl)
theorem z_icmp_gt (K : z_K p l s m args meth c G A D tys cc nL ret Ts own) {off : Int} {x y : Int32} (tgt : Nat) (hdg : decode cc pc = .ok (.if_icmp .gt off, 3)) (ht : (pc : Int) + off = (tgt : Int)) (kt : y < x → Z p l e R s m args below meth c D nL G A Q ws lv cells slots tgt st) (kf : ¬ y < x → Z p l e R s m args below meth c D nL G A Q ws lv cells slots (pc + 3) st) : Z p l e R s m args below meth c D nL G A Q ws lv cells slots pc (.int y :: .int x :: st) := fun H locs ls hP hD hS hl => lv_icmp_gt K.1 K.2.1 hdg ht (fun h => kt h H locs ls hP hD hS hl) (fun h => kf h H locs ls hP hD hS hl)
theorem z_icmp_le (K : z_K p l s m args meth c G A D tys cc nL ret Ts own) {off : Int} {x y : Int32} (tgt : Nat) (hdg : decode cc pc = .ok (.if_icmp .le off, 3)) (ht : (pc : Int) + off = (tgt : Int)) (kt : x ≤ y → Z p l e R s m args below meth c D nL G A Q ws lv cells slots tgt st) (kf : ¬ x ≤ y → Z p l e R s m args below meth c D nL G A Q ws lv cells slots (pc + 3) st) : Z p l e R s m args below meth c D nL G A Q ws lv cells slots pc (.int y :: .int x :: st) := fun H locs ls hP hD hS hl => lv_icmp_le K.1 K.2.1 hdg ht (fun h => kt h H locs ls hP hD hS hl) (fun h => kf h H locs ls hP hD hS hl)
/-- a counter against its bound -/
theorem z_cmpN (K : z_K p l s m args meth c G A D tys cc nL ret Ts own) {off : Int} {x y : Int32} (tgt a b : Nat) (hdg : decode cc pc = .ok (.if_icmp .ge off, 3)) (ht : (pc : Int) + off = (tgt : Int)) (hx : x = nI a) (hy : y = nI b) (ha : a < 2 ^ 31) (hb : b < 2 ^ 31) (kt : b ≤ a → Z p l e R s m args below meth c D nL G A Q ws lv cells slots tgt st) (kf : a < b → Z p l e R s m args below meth c D nL G A Q ws lv cells slots (pc + 3) st) : Z p l e R s m args below meth c D nL G A Q ws lv cells slots pc (.int y :: .int x :: st) := by
  subst hx hy
  exact z_icmp_ge K tgt hdg ht (fun h => kt ((nI_leI hb ha).mp h)) (fun h => kf (Nat.lt_of_not_le (fun q => h ((nI_leI hb ha).mpr q))))
theorem z_dup2 (K : z_K p l s m args meth c G A D tys cc nL ret Ts own) {va vb : Value} (hdg : decode cc pc = .ok (.dup2, 1)) (hva : va.category = 1) (hvb : vb.category = 1) (kk : Z p l e R s m args below meth c D nL G A Q ws lv cells slots (pc + 1) (va :: vb :: va :: vb :: st)) : Z p l e R s m args below meth c D nL G A Q ws lv cells slots pc (va :: vb :: st) := fun H locs ls hP hD hS hl => lv_dup2_11 K.1 K.2.1 hdg hva hvb (kk H locs ls hP hD hS hl)
/-- a truth as a number -/
def z_b (b : Bool) : Int32 := if b then 1 else 0
theorem z_b0 {b : Bool} : z_b b = 0 ↔ b = false := by cases b <;> decide
theorem z_b1 {b : Bool} : ¬ z_b b = 0 ↔ b = true := by cases b <;> decide
theorem z_if_eqB (K : z_K p l s m args meth c G A D tys cc nL ret Ts own) {off : Int} {b : Bool} (tgt : Nat) (hdg : decode cc pc = .ok (.ifCond .eq off, 3)) (ht : (pc : Int) + off = (tgt : Int)) (kt : b = false → Z p l e R s m args below meth c D nL G A Q ws lv cells slots tgt st) (kf : b = true → Z p l e R s m args below meth c D nL G A Q ws lv cells slots (pc + 3) st) : Z p l e R s m args below meth c D nL G A Q ws lv cells slots pc (.int (z_b b) :: st) := z_if_eq K tgt hdg ht (fun h => kt (z_b0.mp h)) (fun h => kf (z_b1.mp h))
theorem z_if_neB (K : z_K p l s m args meth c G A D tys cc nL ret Ts own) {off : Int} {b : Bool} (tgt : Nat) (hdg : decode cc pc = .ok (.ifCond .ne off, 3)) (ht : (pc : Int) + off = (tgt : Int)) (kt : b = true → Z p l e R s m args below meth c D nL G A Q ws lv cells slots tgt st) (kf : b = false → Z p l e R s m args below meth c D nL G A Q ws lv cells slots (pc + 3) st) : Z p l e R s m args below meth c D nL G A Q ws lv cells slots pc (.int (z_b b) :: st) := z_if_ne K tgt hdg ht (fun h => kt (z_b1.mp h)) (fun h => kf (z_b0.mp h))
/-- fields -/
theorem z_get (K : z_K p l s m args meth c G A D tys cc nL ret Ts own) {C ref : String} {T : u_T} {N ci index : Nat} (hin : ∀ w ∈ u_ws C T N, w ∈ Ts) (hc : vwCl[ci]? = some (C, T, N)) (q0 : Nat) {a : Nat} {fs : List Value} (he : ws[q0]? = some (a, .inr (ci, fs))) (k : Nat) (hk : k < N) (hw : Cond.fieldLink own index ref (T k).2.1 (T k).2.2.1 ∈ Ts) (hsame : (T k).1 = ref) {v : Value} (hv : fs[k]? = some v) (hdg : decode cc pc = .ok (.getfield index, 3)) (kk : Z p l e R s m args below meth c D nL G A Q ws lv cells slots (pc + 3) (v :: st)) : Z p l e R s m args below meth c D nL G A Q ws lv cells slots pc (.ref a :: st) := fun H locs ls hP hD hS hl =>
  va_get K.1 K.2.1 K.2.2.2.2.1 hin K.2.2.2.1 K.2.2.2.2.2.1 hP q0 he hc k hk (K.2.2.2.2.1 _ hw) (fun x h => by rw [← hsame]; exact h) hv hdg (kk H locs ls hP hD hS hl)
theorem z_put (K : z_K p l s m args meth c G A D tys cc nL ret Ts own) {C ref : String} {T : u_T} {N ci index : Nat} (hin : ∀ w ∈ u_ws C T N, w ∈ Ts) (hc : vwCl[ci]? = some (C, T, N)) (ty0 : Nat → FieldType) (hty : ∀ k, k < N → parseFieldDescriptor (T k).2.2.1 = some (ty0 k)) (hnm : ∀ a, a < N → ∀ b, b < N → a ≠ b → (T a).2.1 ≠ (T b).2.1) (q0 : Nat) {a : Nat} {fs : List Value} (he : ws[q0]? = some (a, .inr (ci, fs))) (k : Nat) (hk : k < N) (hw : Cond.fieldLink own index ref (T k).2.1 (T k).2.2.1 ∈ Ts) (hsame : (T k).1 = ref) (hfin : (T k).2.2.2 = false) {v : Value} (hn : narrow (ty0 k) v = v) (hfit : fits (ty0 k) v = true) (hl0 : k < fs.length) (hA : A a) {ws' : va_W} (hws : ws.set q0 (a, .inr (ci, fs.set k v)) = ws') (hdg : decode cc pc = .ok (.putfield index, 3)) (kk : Z p l e R s m args below meth c D nL G A Q ws' lv cells slots (pc + 3) st) : Z p l e R s m args below meth c D nL G A Q ws lv cells slots pc (v :: .ref a :: st) := by
  intro H locs ls hP hD hS hl
  subst hws
  have hap := va_apart (own := own) K.2.2.2.2.1 hin ty0 hty hnm K.2.2.2.2.2.1 hc
  obtain ⟨r, h1, cell, q1, q2, q3, q4⟩ := hP q0 _ he
  have hr : r = (C, T, N) := Option.some.inj (h1.symm.trans hc)
  subst hr
  obtain ⟨hSl, hfc, kC, hkC, hkind⟩ := K.2.2.2.2.2.1.1 ci _ hc
  obtain ⟨cf, kf, fi, f, hi, hsl⟩ := hSl k hk
  have hlay := K.2.2.2.2.1 _ (hin _ (u_in_lay hk))
  unfold u_lay at hlay
  rw [if_neg (by rw [hfin]; decide)] at hlay
  have hst := (u_facts hfc hkC (u_lays K.2.2.2.2.1 hin hk) hi).1
  have h6 := u_store hfc hkC hkind hlay hi (hty k hk) hn hfit
  have hi2 : s.fieldFound? ref (T k).2.1 (T k).2.2.1 = some (cf, kf, fi, f) := by rw [← hsame]; exact hi
  refine W.putK K.1 K.2.1 (f := f) ⟨K.2.2.2.1, K.2.2.2.2.1 _ hw, ⟨_, _, _, hi2⟩, hst⟩ (by rw [q2]; exact h6) q1 q3 (by rw [hsl]; exact k2_hasslot (q4 k hk)) rfl rfl hdg fun H' e1 e2 e3 => ?_
  rw [hsl] at e1 ⊢
  exact kk H' _ ls (hP.set hD he ⟨_, hc, t_OB.to (V := updV (vp_V fs) k v) ⟨_, e1, q2, q3, t_set q4 hap hk v⟩ (fun j _ => vp_updV_set hl0 v j)⟩ e3) (hD.set he) (hS.put e2 e3 hA) hl
/-- arrays of ints -/
theorem z_iald (K : z_K p l s m args meth c G A D tys cc nL ret Ts own) (q0 t0 : Nat) {a : Nat} {cA : ClassId} {n : Nat} {f : Nat → Int32} (ha : ws[q0]? = some (a, .inl (cA, n, .inl f))) (ht : tys[t0]? = some (cA, .int)) {i : Int32} (hin : vp_in i n) (hdg : decode cc pc = .ok (.iaload, 1)) {x : Int32} (hx : f i.toNatClampNeg = x) (kk : Z p l e R s m args below meth c D nL G A Q ws lv cells slots (pc + 1) (.int x :: st)) : Z p l e R s m args below meth c D nL G A Q ws lv cells slots pc (.int i :: .ref a :: st) := fun H locs ls hP hD hS hl => va_iald K.1 K.2.1 K.2.2.2.2.2.1 hP q0 t0 ha ht hin hdg (by rw [hx]; exact kk H locs ls hP hD hS hl)
theorem z_iast (K : z_K p l s m args meth c G A D tys cc nL ret Ts own) (q0 t0 : Nat) {a : Nat} {cA : ClassId} {n : Nat} {f : Nat → Int32} (ha : ws[q0]? = some (a, .inl (cA, n, .inl f))) (ht : tys[t0]? = some (cA, .int)) {i x : Int32} (hin : vp_in i n) (hdg : decode cc pc = .ok (.iastore, 1)) (hA : A a) {j : Nat} (hj : i.toNatClampNeg = j) {ws' : va_W} (hws : ws.set q0 (a, .inl (cA, n, .inl (upd f j x))) = ws') (kk : Z p l e R s m args below meth c D nL G A Q ws' lv cells slots (pc + 1) st) : Z p l e R s m args below meth c D nL G A Q ws lv cells slots pc (.int x :: .int i :: .ref a :: st) := by
  intro H locs ls hP hD hS hl
  subst hws hj
  refine W.iast K.1 K.2.1 (hP q0 _ ha) ((K.2.2.2.2.2.1.2 t0 _ ht).1 n (fun j => .int (f j))) (fun q => by cases q) (by show ¬ (i < 0 ∨ (arrV _ _ _).slots.size ≤ _); rw [arrV_size]; exact hin) rfl rfl hdg fun H1 e z oq => ?_
  refine kk H1 _ ls (hP.set hD ha ?_ oq) (hD.set ha) (hS.put z oq hA) hl
  show H1[a]? = some (vp_cell _ _)
  rw [e]
  rw [vp_cell_i, vp_cell_i, arrV_store]
  show some (arrV cA n _) = some (arrV cA n _)
  congr 2
  funext q
  by_cases hq : q = i.toNatClampNeg
  · subst hq
    simp [updV, upd]
  · simp [updV, upd, hq]
theorem z_alen (K : z_K p l s m args meth c G A D tys cc nL ret Ts own) (q0 t0 : Nat) {a : Nat} {cA : ClassId} {x : vp_A} (ha : ws[q0]? = some (a, .inl (cA, x))) {ty : FieldType} (ht : tys[t0]? = some (cA, ty)) {v : Int32} (hv : Int32.ofNat x.1 = v) (hdg : decode cc pc = .ok (.arraylength, 1)) (kk : Z p l e R s m args below meth c D nL G A Q ws lv cells slots (pc + 1) (.int v :: st)) : Z p l e R s m args below meth c D nL G A Q ws lv cells slots pc (.ref a :: st) := fun H locs ls hP hD hS hl => va_alen K.1 K.2.1 K.2.2.2.2.2.1 hP q0 t0 ha ht hv hdg (kk H locs ls hP hD hS hl)
theorem z_lald (K : z_K p l s m args meth c G A D tys cc nL ret Ts own) (q0 t0 : Nat) {a : Nat} {cA : ClassId} {n : Nat} {f : Nat → Int64} (ha : ws[q0]? = some (a, .inl (cA, n, .inr (.inl f)))) (ht : tys[t0]? = some (cA, .long)) {i : Int32} (hin : vp_in i n) (hdg : decode cc pc = .ok (.laload, 1)) {x : Int64} (hx : f i.toNatClampNeg = x) (kk : Z p l e R s m args below meth c D nL G A Q ws lv cells slots (pc + 1) (.long x :: st)) : Z p l e R s m args below meth c D nL G A Q ws lv cells slots pc (.int i :: .ref a :: st) := fun H locs ls hP hD hS hl => va_lald K.1 K.2.1 K.2.2.2.2.2.1 hP q0 t0 ha ht hin hdg (by rw [hx]; exact kk H locs ls hP hD hS hl)
theorem z_last (K : z_K p l s m args meth c G A D tys cc nL ret Ts own) (q0 t0 : Nat) {a : Nat} {cA : ClassId} {n : Nat} {f : Nat → Int64} (ha : ws[q0]? = some (a, .inl (cA, n, .inr (.inl f)))) (ht : tys[t0]? = some (cA, .long)) {i : Int32} {x : Int64} (hin : vp_in i n) (hdg : decode cc pc = .ok (.lastore, 1)) (hA : A a) {j : Nat} (hj : i.toNatClampNeg = j) {ws' : va_W} (hws : ws.set q0 (a, .inl (cA, n, .inr (.inl (vp_updL f j x)))) = ws') (kk : Z p l e R s m args below meth c D nL G A Q ws' lv cells slots (pc + 1) st) : Z p l e R s m args below meth c D nL G A Q ws lv cells slots pc (.long x :: .int i :: .ref a :: st) := by
  intro H locs ls hP hD hS hl
  subst hws hj
  refine W.last K.1 K.2.1 (hP q0 _ ha) ((K.2.2.2.2.2.1.2 t0 _ ht).1 n (fun j => .long (f j))) (fun q => by cases q) (by show ¬ (i < 0 ∨ (arrV _ _ _).slots.size ≤ _); rw [arrV_size]; exact hin) rfl rfl hdg fun H1 e z oq => ?_
  refine kk H1 _ ls (hP.set hD ha ?_ oq) (hD.set ha) (hS.put z oq hA) hl
  show H1[a]? = some (vp_cell _ _)
  rw [e]
  rw [vp_cell_l, vp_cell_l, arrV_store]
  show some (arrV cA n _) = some (arrV cA n _)
  congr 2
  funext q
  by_cases hq : q = i.toNatClampNeg
  · subst hq
    simp [updV, vp_updL]
  · simp [updV, vp_updL, hq]
/-- a counted loop: from its end back to its head -/
theorem z_down {P : Nat → Prop} (n : Nat) (h0 : P n) (hs : ∀ k, k < n → P (k + 1) → P k) : ∀ k, k ≤ n → P k := by
  have key : ∀ d k, k + d = n → P k := by
    intro d
    induction d with
    | zero => intro k hk; rw [show k = n by omega]; exact h0
    | succ d ih => intro k hk; exact hs k (by omega) (ih (k + 1) (by omega))
  exact fun k hk => key (n - k) k (by omega)
/-- some cells of a world anew -/
def z_set : va_W → List Nat → va_W → va_W
  | ws, i :: is, w :: wv => z_set (ws.set i w) is wv
  | ws, _, _ => ws
theorem z_set_mem : ∀ (is : List Nat) (wv ws : va_W), is.map (fun i => (ws[i]?).map Prod.fst) = wv.map (fun w => some w.1) → (∀ k : Nat, ((z_set ws is wv)[k]?).map Prod.fst = (ws[k]?).map Prod.fst) ∧ ∀ (k : Nat) (q : Nat × va_E), (z_set ws is wv)[k]? = some q → q ∈ wv ∨ (ws[k]? = some q ∧ k ∉ is)
  | [], wv, ws, h => by
    have e : z_set ws [] wv = ws := by cases wv <;> rfl
    rw [e]
    exact ⟨fun _ => rfl, fun k q hq => Or.inr ⟨hq, List.not_mem_nil⟩⟩
  | i :: is, [], ws, h => by simp at h
  | i :: is, w :: wv, ws, h => by
    simp only [List.map_cons, List.cons.injEq] at h
    obtain ⟨h1, h2⟩ := h
    have hkey : ∀ k : Nat, ((ws.set i w)[k]?).map Prod.fst = (ws[k]?).map Prod.fst := by
      intro k
      by_cases hk : k = i
      · subst hk
        cases hwk : ws[k]? with
        | none => rw [hwk] at h1; simp at h1
        | some e =>
          have hl := (List.getElem?_eq_some_iff.mp hwk).1
          rw [List.getElem?_set_self hl]
          rw [hwk] at h1
          simpa using h1.symm
      · rw [List.getElem?_set_ne (Ne.symm hk)]
    have ih := z_set_mem is wv (ws.set i w) (by rw [← h2]; exact List.map_congr_left (fun j _ => hkey j))
    refine ⟨fun k => by rw [show z_set ws (i :: is) (w :: wv) = z_set (ws.set i w) is wv from rfl, ih.1 k, hkey k], fun k q hq => ?_⟩
    rcases ih.2 k q hq with h | ⟨h, hn⟩
    · exact Or.inl (List.mem_cons_of_mem _ h)
    · by_cases hk : k = i
      · subst hk
        have hl : k < ws.length := by
          have := (List.getElem?_eq_some_iff.mp h).1
          rwa [List.length_set] at this
        rw [List.getElem?_set_self hl] at h
        cases h
        exact Or.inl List.mem_cons_self
      · rw [List.getElem?_set_ne (Ne.symm hk)] at h
        exact Or.inr ⟨h, fun hm => (List.mem_cons.mp hm).elim hk hn⟩
theorem z_set_P {wv : va_W} {is : List Nat} {H H1 : Heap} (hP : va_P D vwCl ws H) (hD : va_D G ws) (hW : is.map (fun i => (ws[i]?).map Prod.fst) = wv.map (fun w => some w.1)) (hF : ∀ q, q < H.size → q ∉ wv.map Prod.fst → H1[q]? = H[q]?) (hPw : va_P D vwCl wv H1) : va_P D vwCl (z_set ws is wv) H1 := by
  intro k q hk
  rcases (z_set_mem is wv ws hW).2 k q hk with h | ⟨h, hn⟩
  · obtain ⟨j, hj⟩ := List.mem_iff_getElem?.mp h
    exact hPw j q hj
  · refine (hP k q h).kept (hF q.1 (hP k q h).lt (fun hm => ?_))
    obtain ⟨w, hw, e⟩ := List.mem_map.mp hm
    obtain ⟨j, hj⟩ := List.mem_iff_getElem?.mp hw
    have h1 : (is.map (fun i => (ws[i]?).map Prod.fst))[j]? = some (some w.1) := by rw [hW, List.getElem?_map, hj]; rfl
    rw [List.getElem?_map] at h1
    cases hi : is[j]? with
    | none => rw [hi] at h1; cases h1
    | some i =>
      rw [hi] at h1
      have h2 : (ws[i]?).map Prod.fst = some w.1 := Option.some.inj h1
      cases hwi : ws[i]? with
      | none => rw [hwi] at h2; cases h2
      | some e' =>
        rw [hwi] at h2
        have h3 : e'.1 = w.1 := Option.some.inj h2
        have := hD.1 k i q e' h hwi (by rw [h3, e])
        subst this
        exact hn (List.mem_of_getElem? hi)
theorem z_set_D {wv : va_W} {is : List Nat} (hD : va_D G ws) (hW : is.map (fun i => (ws[i]?).map Prod.fst) = wv.map (fun w => some w.1)) : va_D G (z_set ws is wv) := by
  have hm := (z_set_mem is wv ws hW).1
  have ex : ∀ (i : Nat) (q : Nat × va_E), (z_set ws is wv)[i]? = some q → ∃ q', ws[i]? = some q' ∧ q'.1 = q.1 := by
    intro i q h
    have h1 := hm i
    rw [h] at h1
    cases hw : ws[i]? with
    | none => rw [hw] at h1; cases h1
    | some e => rw [hw] at h1; exact ⟨e, rfl, (Option.some.inj h1).symm⟩
  refine ⟨fun i j a b ha hb hab => ?_, fun k q hk => ?_⟩
  · obtain ⟨a', h1, h2⟩ := ex i a ha
    obtain ⟨b', h3, h4⟩ := ex j b hb
    exact hD.1 i j a' b' h1 h3 (by rw [h2, h4, hab])
  · obtain ⟨q', h1, h2⟩ := ex k q hk
    rw [← h2]
    exact hD.2 k q' h1
/-! contracts: what a method answers, and which cells hold what behind it; nothing else is written -/
def z_A (ch : List Nat) (sz : Nat) : Nat → Prop := fun q => q ∈ ch ∨ sz ≤ q
def z_fr (ch : List Nat) (st t : State) : Prop := st.heap.size ≤ t.heap.size ∧ ∀ q : Nat, q < st.heap.size → q ∉ ch → t.heap[q]? = st.heap[q]?
def z_pre (l : Launch) (G : Nat → Prop) (D : va_G) (tys : List (ClassId × FieldType)) (av : List Value) (wp : va_W) (sz : Nat) (a : Array Value) (U : State) : Prop := U.heap.size = sz ∧ a = av.toArray ∧ va_P D vwCl wp U.heap ∧ z_E l G D tys U ∧ va_D G wp
def z_Q (D : va_G) (v : Option Value) (wv : va_W) (_ : Array Value) (st : State) (o : Outcome) (t : State) : Prop := o = .returned v ∧ va_P D vwCl wv t.heap ∧ z_fr (wv.map Prod.fst) st t
/-- a method that returns: from the cells wp, with v; the cells wv behind it -/
def z_M (l : Launch) (y : MethodName) (wy : List Cond) (rm : Room) (G : Nat → Prop) (D : va_G) (tys : List (ClassId × FieldType)) (av : List Value) (wp : va_W) (v : Option Value) (wv : va_W) (mc ms : Nat) : Prop :=
  ∀ sz : Nat, Met l y wy rm (z_pre l G D tys av wp sz) (z_Q D v wv) mc ms (z_A (wv.map Prod.fst) sz)
theorem z_blind {av : List Value} {wp : va_W} {sz : Nat} : FrameBlind (z_pre l G D tys av wp sz) := fun _ _ g mk q => ⟨q.1, q.2.1, q.2.2.1, q.2.2.2.1.calling g mk _, q.2.2.2.2⟩
theorem z_preP {av : List Value} {wp : va_W} {H : Heap} {locs : List Loc} (hE : z_E l G D tys s) (hAG : ∀ q, A q → G q) (hP : va_P D vwCl ws H) (hD : va_D G ws) (hS : va_S A s.heap H locs) (is : List Nat) (hn : va_nd is = true) (hC : is.map (fun i => ws[i]?) = wp.map some) (U : State) (hU : U.heap = H) (hW : s.WarmedH U.vm) : z_pre l G D tys av wp H.size av.toArray U := by
  refine ⟨by rw [hU], rfl, ?_, hE.step hW (by rw [hU]; exact hS.1) (fun q h1 h2 => by rw [hU]; exact hS.2.1 q h1 (fun h => h2 (hAG q h))), hD.sub is hn hC⟩
  rw [hU]
  refine hP.sub is ?_
  have : is.filterMap (fun i => ws[i]?) = (is.map (fun i => ws[i]?)).filterMap id := by rw [List.filterMap_map]; rfl
  rw [this, hC, List.filterMap_map]; exact List.filterMap_some
/-- behind a call -/
theorem z_after {wv : va_W} {isW : List Nat} {H : Heap} {locs L : List Loc} {st₀ t T' : State} (hP : va_P D vwCl ws H) (hD : va_D G ws) (hS : va_S A s.heap H locs) (hW : isW.map (fun i => (ws[i]?).map Prod.fst) = wv.map (fun w => some w.1)) (hA : ∀ q ∈ wv.map Prod.fst, A q) (hAn : ∀ q : Nat, s.heap.size ≤ q → A q)
    (h0 : st₀.heap = H) (e1 : T'.heap = t.heap) (hPv : va_P D vwCl wv t.heap) (hF : z_fr (wv.map Prod.fst) st₀ t) (hL : ∀ q ∈ L, z_A (wv.map Prod.fst) H.size q.base) : va_P D vwCl (z_set ws isW wv) T'.heap ∧ va_D G (z_set ws isW wv) ∧ va_S A s.heap T'.heap (locs ++ L) := by
  obtain ⟨f1, f2⟩ := hF
  rw [h0] at f1 f2
  refine ⟨z_set_P hP hD hW (fun q h1 h2 => by rw [e1]; exact f2 q h1 h2) (by rw [e1]; exact hPv), z_set_D hD hW, ?_, ?_, ?_⟩
  · rw [e1]; exact Nat.le_trans hS.1 f1
  · intro q h1 h2
    rw [e1, f2 q (Nat.lt_of_lt_of_le h1 hS.1) (fun h => h2 (hA q h))]
    exact hS.2.1 q h1 h2
  · intro q hq
    rcases List.mem_append.mp hq with h | h
    · exact hS.2.2 q h
    · rcases hL q h with h | h
      · exact hA _ h
      · exact hAn _ (Nat.le_trans hS.1 h)
theorem z_call {v : Option Value} {wv ws' : va_W} {mc ms : Nat} {rest st' : List Value} {a : Array Value} (K : z_K p l s m args meth c G A D tys cc nL ret Ts own)
    (hr : ∀ (H : Heap) (locs : List Loc) (ls : Array Slot), va_P D vwCl ws H → va_D G ws → va_S A s.heap H locs → lv_has ls nL lv → va_Run p l e R s m args below meth c H locs cells slots mc ms (F0 m pc ls st) rest (z_Q D v wv a) (z_A (wv.map Prod.fst) H.size))
    (isW : List Nat) (hW : isW.map (fun i => (ws[i]?).map Prod.fst) = wv.map (fun w => some w.1)) (hA : ∀ q ∈ wv.map Prod.fst, A q) (hws : z_set ws isW wv = ws') (hst : v.toList ++ rest = st')
    (kk : Z p l e R s m args below meth c D nL G A Q ws' lv (cells + mc) (slots + ms) (pc + 3) st') : Z p l e R s m args below meth c D nL G A Q ws lv cells slots pc st := by
  intro H locs ls hP hD hS hl T hT X
  obtain ⟨v', st₀, t, T', L, h0, X', hL, e1, e2, ⟨hv, hPv, hF⟩, go⟩ := hr H locs ls hP hD hS hl T hT X
  cases hv
  obtain ⟨g1, g2, g3⟩ := z_after hP hD hS hW hA K.2.2.2.2.2.2.2.2.2.2 h0 e1 hPv hF hL
  rw [hws] at g1 g2
  subst hst
  obtain ⟨t2, a1, b1⟩ := kk T'.heap (locs ++ L) ls g1 g2 g3 hl T' rfl X'
  exact ⟨t2, go t2 a1, b1⟩
theorem z_inA {ch : List Nat} {sz : Nat} {wv : va_W} (is : List Nat) (h : is.map (fun i => ch[i]?) = wv.map (fun w => some w.1)) : ∀ q ∈ wv.map Prod.fst, z_A ch sz q := by
  intro q hq
  obtain ⟨w, hw, e⟩ := List.mem_map.mp hq
  obtain ⟨j, hj⟩ := List.mem_iff_getElem?.mp hw
  have h1 : (is.map (fun i => ch[i]?))[j]? = some (some w.1) := by rw [h, List.getElem?_map, hj]; rfl
  rw [List.getElem?_map] at h1
  cases hi : is[j]? with
  | none => rw [hi] at h1; cases h1
  | some i =>
    rw [hi] at h1
    rw [← e]
    exact Or.inl (List.mem_of_getElem? (Option.some.inj h1))
/-- the calls by their kinds -/
theorem z_callV {y : MethodName} {wy wy' : List Cond} {rm : Room} {b : Nat} {As : List Value} {wp wv ws' : va_W} {v : Option Value} {mc ms index maxL : Nat} {by' : ByteArray} {ry : Option FieldType} {C : String} {rest st' : List Value} {fs : List Value} {T : u_T} {N : Nat}
    (K : z_K p l s m args meth c G A D tys cc nL ret Ts own) (hM : z_M l y wy rm G D tys (.ref b :: As) wp v wv mc ms) (hG : GoodIn Ts (wsV own index C y wy)) (hw : wy = Cond.code y by' maxL ry :: wy') (n ci : Nat)
    (hd : y.cls = C ∧ y.cls ≠ "java/lang/invoke/MethodHandle" ∧ y.cls ≠ "java/lang/invoke/VarHandle" ∧ (parseMethodDescriptor y.desc).map (fun d => d.parameters.length) = some n) (hc : vwCl[ci]? = some (C, T, N)) (hdg : decode cc pc = .ok (.invokevirtual index, 3))
    (is : List Nat) (q0 : Nat) (isW isA : List Nat) {ch : List Nat} {sz : Nat} (hAA : A = z_A ch sz) (hrc : rm.cells = mc) (hrs : rm.slots = ms) (hR : rm.frames + 1 ≤ R.frames ∧ 8 + (maxL + 11) + rm.locals ≤ R.locals) (hf : cells + mc ≤ R.cells ∧ slots + ms ≤ R.slots)
    (hn : va_nd is = true) (hC : is.map (fun i => ws[i]?) = wp.map some) (he : ws[q0]? = some (b, .inr (ci, fs))) (hlen : As.length = n) (hstk : st = As.reverse ++ .ref b :: rest) (hcat : (rest.map fun v => v.category).sum ≤ 8)
    (hW : isW.map (fun i => (ws[i]?).map Prod.fst) = wv.map (fun w => some w.1)) (hA : isA.map (fun i => ch[i]?) = wv.map (fun w => some w.1)) (hws : z_set ws isW wv = ws') (hst : v.toList ++ rest = st')
    (kk : Z p l e R s m args below meth c D nL G A Q ws' lv (cells + mc) (slots + ms) (pc + 3) st') : Z p l e R s m args below meth c D nL G A Q ws lv cells slots pc st :=
  z_call K (fun H locs ls hP hD hS hl => va_runV ⟨K.1, K.2.1, K.2.2.1, K.2.2.2.1, K.2.2.2.2.1⟩ (hM H.size) (cwV n K.2.2.2.2.1 hG hw hrc hrs hd hR) ⟨z_blind, va_recv K.2.2.2.2.2.1 hP hc he, fun U hU hW => z_preP K.2.2.2.2.2.2.2.2.1 K.2.2.2.2.2.2.2.2.2.1 hP hD hS is hn hC U hU hW⟩ rfl hlen hl.1 hstk (lv_room hcat) hdg hf) isW hW (by rw [hAA]; exact z_inA isA hA) hws hst kk
theorem z_callS {y : MethodName} {wy wy' : List Cond} {rm : Room} {As : List Value} {wp wv ws' : va_W} {v : Option Value} {mc ms index maxL : Nat} {by' : ByteArray} {ry : Option FieldType} {rest st' : List Value}
    (K : z_K p l s m args meth c G A D tys cc nL ret Ts own) (hM : z_M l y wy rm G D tys As wp v wv mc ms) (hG : GoodIn Ts (va_wsS own index y wy)) (hw : wy = Cond.code y by' maxL ry :: wy') (n : Nat)
    (hd : y.cls ≠ "java/lang/invoke/MethodHandle" ∧ y.cls ≠ "java/lang/invoke/VarHandle" ∧ (parseMethodDescriptor y.desc).map (fun d => d.parameters.length) = some n) (hdg : decode cc pc = .ok (.invokestatic index, 3))
    (is : List Nat) (isW isA : List Nat) {ch : List Nat} {sz : Nat} (hAA : A = z_A ch sz) (hrc : rm.cells = mc) (hrs : rm.slots = ms) (hR : rm.frames + 1 ≤ R.frames ∧ 8 + (maxL + 11) + rm.locals ≤ R.locals) (hf : cells + mc ≤ R.cells ∧ slots + ms ≤ R.slots)
    (hn : va_nd is = true) (hC : is.map (fun i => ws[i]?) = wp.map some) (hlen : As.length = n) (hstk : st = As.reverse ++ rest) (hcat : (rest.map fun v => v.category).sum ≤ 8)
    (hW : isW.map (fun i => (ws[i]?).map Prod.fst) = wv.map (fun w => some w.1)) (hA : isA.map (fun i => ch[i]?) = wv.map (fun w => some w.1)) (hws : z_set ws isW wv = ws') (hst : v.toList ++ rest = st')
    (kk : Z p l e R s m args below meth c D nL G A Q ws' lv (cells + mc) (slots + ms) (pc + 3) st') : Z p l e R s m args below meth c D nL G A Q ws lv cells slots pc st :=
  z_call K (fun H locs ls hP hD hS hl => va_runS ⟨K.1, K.2.1, K.2.2.1, K.2.2.2.1, K.2.2.2.2.1⟩ (hM H.size) (va_cwS n K.2.2.2.2.1 hG hw hrc hrs hd hR) ⟨z_blind, fun U hU hW => z_preP K.2.2.2.2.2.2.2.2.1 K.2.2.2.2.2.2.2.2.2.1 hP hD hS is hn hC U hU hW⟩ rfl hlen hl.1 hstk (lv_room hcat) hdg hf) isW hW (by rw [hAA]; exact z_inA isA hA) hws hst kk
/-- a private function of the host, without cells: nothing is written -/
theorem z_callSN {y : MethodName} {wy wy' : List Cond} {rm : Room} {As : List Value} {v : Option Value} {index maxL : Nat} {by' : ByteArray} {ry : Option FieldType} {rest st' : List Value} {host : String}
    (K : z_K p l s m args meth c G A D tys cc nL ret Ts own) (hM : z_M l y wy rm G D tys As [] v [] 0 0) (hG : GoodIn Ts wy) (hw : wy = Cond.code y by' maxL ry :: wy') (n : Nat) (hnest : (own, index, y, host) ∈ z_nests) (hini : Cond.initialized y.cls ∈ Ts) (hsta : Cond.static y ∈ Ts)
    (hd : y.cls ≠ "java/lang/invoke/MethodHandle" ∧ y.cls ≠ "java/lang/invoke/VarHandle" ∧ (parseMethodDescriptor y.desc).map (fun d => d.parameters.length) = some n) (hdg : decode cc pc = .ok (.invokestatic index, 3))
    (hrc : rm.cells = 0) (hrs : rm.slots = 0) (hR : rm.frames + 1 ≤ R.frames ∧ 8 + (maxL + 11) + rm.locals ≤ R.locals) (hf : cells ≤ R.cells ∧ slots ≤ R.slots)
    (hlen : As.length = n) (hstk : st = As.reverse ++ rest) (hcat : (rest.map fun v => v.category).sum ≤ 8) (hst : v.toList ++ rest = st')
    (kk : Z p l e R s m args below meth c D nL G A Q ws lv cells slots (pc + 3) st') : Z p l e R s m args below meth c D nL G A Q ws lv cells slots pc st :=
  z_call (ws' := ws) K (fun H locs ls hP hD hS hl => va_runSN ⟨K.1, K.2.1, K.2.2.1, K.2.2.2.1, K.2.2.2.2.1⟩ (hM H.size) ⟨va_cnB n K.2.2.2.2.1 hG hw hrc hrs (K.2.2.2.2.2.2.2.2.1.2.2.2.1 _ hnest) (K.2.2.2.2.1 _ hini) hd hR, K.2.2.2.2.1 _ hsta, trivial⟩ ⟨z_blind, fun U hU hW => z_preP K.2.2.2.2.2.2.2.2.1 K.2.2.2.2.2.2.2.2.2.1 hP hD hS [] rfl rfl U hU hW⟩ rfl hlen hl.1 hstk (lv_room hcat) hdg hf) [] rfl (fun _ h => nomatch h) rfl hst kk
end ZLIB
