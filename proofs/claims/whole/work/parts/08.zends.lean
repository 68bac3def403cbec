section ZENDS
variable {p : Program} {l : Launch} {e : Env} {R : Room} {s : State} {m : MethodId} {args : Array Value} {below : List Frame} {meth : Method} {c : Code} {D : va_G} {nL : Nat} {G A : Nat → Prop} {Q : State → Prop} {ws : va_W} {lv : List (Nat × Value)} {cells slots pc : Nat} {st : List Value} {cc : ByteArray} {ret : Option FieldType} {Ts : List Cond} {own : String} {tys : List (ClassId × FieldType)}
/-! a method from its entry to its ends -/
theorem z_AG {wp wv : va_W} {U : State} (hE : z_E l G D tys U) (hD : va_D G wp) (isG : List Nat) (hG : isG.map (fun i => (wp[i]?).map Prod.fst) = wv.map (fun w => some w.1)) : ∀ q, z_A (wv.map Prod.fst) U.heap.size q → G q := by
  intro q hq
  rcases hq with h | h
  · obtain ⟨w, hw, e⟩ := List.mem_map.mp h
    obtain ⟨j, hj⟩ := List.mem_iff_getElem?.mp hw
    have h1 : (isG.map (fun i => (wp[i]?).map Prod.fst))[j]? = some (some w.1) := by rw [hG, List.getElem?_map, hj]; rfl
    rw [List.getElem?_map] at h1
    cases hi : isG[j]? with
    | none => rw [hi] at h1; cases h1
    | some i =>
      rw [hi] at h1
      have h2 : (wp[i]?).map Prod.fst = some w.1 := Option.some.inj h1
      cases hwi : wp[i]? with
      | none => rw [hwi] at h2; cases h2
      | some e' =>
        rw [hwi] at h2
        have h3 : e'.1 = w.1 := Option.some.inj h2
        rw [← e, ← h3]
        exact hD.2 i e' hwi
  · exact hE.2.2.1 q h
theorem z_ofW {y : MethodName} {wy wy' : List Cond} {rm : Room} {av : List Value} {wp wv : va_W} {v : Option Value} {mc ms : Nat} (hy : plainName y.cls = true) (hw : wy = Cond.code y cc nL ret :: wy') (hav : (lg_sl av).length ≤ nL) (isG : List Nat) (hG : isG.map (fun i => (wp[i]?).map Prod.fst) = wv.map (fun w => some w.1)) {lv0 : List (Nat × Value)} (hlv : lv_args 0 av = lv0)
    (body : ∀ (p : Program) (e : Env) (s : State) (m : MethodId) (args : Array Value) (below : List Frame) (meth : Method) (c : Code), z_K p l s m args meth c G (z_A (wv.map Prod.fst) s.heap.size) D tys cc nL ret wy y.cls → Z p l e rm s m args below meth c D nL G (z_A (wv.map Prod.fst) s.heap.size) (MQ below (z_Q D v wv) args s mc ms (z_A (wv.map Prod.fst) s.heap.size)) wp lv0 0 0 0 []) : z_M l y wy rm G D tys av wp v wv mc ms := by
  intro sz
  refine Met.ofW (cc := cc) (maxL := nL) (ret := ret) hy hw ?_
  intro p e s m args below meth c s₁ B hml hv
  obtain ⟨hsz, rfl, hP, hE, hD⟩ := hv
  subst hsz
  have K : z_K p l s m av.toArray meth c G (z_A (wv.map Prod.fst) s.heap.size) D tys cc nL ret wy y.cls := ⟨B.exec, B.bytes, hml, findClass_of_methodNamed B.named, atoms_spec (ws := wy) B.pre, hE.1, B.returns, B.notSynchronized, hE, z_AG hE hD isG hG, fun q h => Or.inr h⟩
  rw [lg_entry_eq]
  exact body p e s m _ below meth c K s.heap [] _ hP hD va_S.rf (hlv ▸ lv_entry av hav)
theorem z_ofWX {y : MethodName} {wy wy' : List Cond} {rm : Room} {av : List Value} {wp wv wx : va_W} {v : Option Value} {ok : Prop} {ex : String → Prop} {mc ms : Nat} (hy : plainName y.cls = true) (hw : wy = Cond.code y cc nL ret :: wy') (hav : (lg_sl av).length ≤ nL) (isG : List Nat) (hG : isG.map (fun i => (wp[i]?).map Prod.fst) = wv.map (fun w => some w.1)) {lv0 : List (Nat × Value)} (hlv : lv_args 0 av = lv0)
    (body : ∀ (p : Program) (e : Env) (s : State) (m : MethodId) (args : Array Value) (below : List Frame) (meth : Method) (c : Code), z_K p l s m args meth c G (z_A (wv.map Prod.fst) s.heap.size) D tys cc nL ret wy y.cls → (∀ x ∈ c.exceptionTable.toList, False) → Z p l e rm s m args below meth c D nL G (z_A (wv.map Prod.fst) s.heap.size) (vx_MQ below (fun a st o t => ok ∧ z_Q D v wv a st o t) (z_X D ex wx) args s mc ms (z_A (wv.map Prod.fst) s.heap.size)) wp lv0 0 0 0 []) : z_MX l y wy rm G D tys av wp ok v wv ex wx mc ms := by
  intro sz
  refine vx_ofW (cc := cc) (maxL := nL) (ret := ret) hy hw ?_
  intro p e s m args below meth c s₁ B hml htab hv
  obtain ⟨hsz, rfl, hP, hE, hD⟩ := hv
  subst hsz
  have K : z_K p l s m av.toArray meth c G (z_A (wv.map Prod.fst) s.heap.size) D tys cc nL ret wy y.cls := ⟨B.exec, B.bytes, hml, findClass_of_methodNamed B.named, atoms_spec (ws := wy) B.pre, hE.1, B.returns, B.notSynchronized, hE, z_AG hE hD isG hG, fun q h => Or.inr h⟩
  rw [lg_entry_eq]
  exact body p e s m _ below meth c K htab s.heap [] _ hP hD va_S.rf (hlv ▸ lv_entry av hav)
theorem z_frOf {wv : va_W} {H : Heap} {locs : List Loc} {t : State} (hS : va_S (z_A (wv.map Prod.fst) s.heap.size) s.heap H locs) (ht : t.heap = H) : z_fr (wv.map Prod.fst) s t := ⟨by rw [ht]; exact hS.1, fun q h1 h2 => by rw [ht]; exact hS.2.1 q h1 (fun h => h.elim h2 (fun h => absurd h (Nat.not_le.mpr h1)))⟩
theorem z_subP {wv : va_W} {H : Heap} (hP : va_P D vwCl ws H) (isW : List Nat) (hW : isW.map (fun i => ws[i]?) = wv.map some) : va_P D vwCl wv H := by
  refine hP.sub isW ?_
  have : isW.filterMap (fun i => ws[i]?) = (isW.map (fun i => ws[i]?)).filterMap id := by rw [List.filterMap_map]; rfl
  rw [this, hW, List.filterMap_map]; exact List.filterMap_some
theorem z_Qof {wv : va_W} {v : Option Value} {H : Heap} {locs : List Loc} {t : State} (hP : va_P D vwCl ws H) (hS : va_S (z_A (wv.map Prod.fst) s.heap.size) s.heap H locs) (isW : List Nat) (hW : isW.map (fun i => ws[i]?) = wv.map some) (ht : t.heap = H) : z_Q D v wv args s (.returned v) t := ⟨rfl, by rw [ht]; exact z_subP hP isW hW, z_frOf hS ht⟩
theorem z_iret {wv : va_W} {mc ms : Nat} (K : z_K p l s m args meth c G (z_A (wv.map Prod.fst) s.heap.size) D tys cc nL (some .int) Ts own) {x y : Int32} (hdg : decode cc pc = .ok (.ireturn, 1)) (hx : x = y) (isW : List Nat) (hW : isW.map (fun i => ws[i]?) = wv.map some) (hc : cells ≤ mc) (hs : slots ≤ ms) : Z p l e R s m args below meth c D nL G (z_A (wv.map Prod.fst) s.heap.size) (MQ below (z_Q D (some (.int y)) wv) args s mc ms (z_A (wv.map Prod.fst) s.heap.size)) ws lv cells slots pc [.int x] := by
  subst hx
  exact fun H locs ls hP hD hS hl => W.widen hc hs (W.iret K.1 K.2.1 K.2.2.2.2.2.2.1 (fun t ht _ => z_Qof hP hS isW hW ht) hS.2.2 hdg K.2.2.2.2.2.2.2.1)
theorem z_iretX {wv : va_W} {mc ms : Nat} (K : z_K p l s m args meth c G (z_A (wv.map Prod.fst) s.heap.size) D tys cc nL (some .int) Ts own) {x y : Int32} {ok : Prop} {XC : String → State → State → Prop} (hok : ok) (hdg : decode cc pc = .ok (.ireturn, 1)) (hx : x = y) (isW : List Nat) (hW : isW.map (fun i => ws[i]?) = wv.map some) (hc : cells ≤ mc) (hs : slots ≤ ms) : Z p l e R s m args below meth c D nL G (z_A (wv.map Prod.fst) s.heap.size) (vx_MQ below (fun a st o t => ok ∧ z_Q D (some (.int y)) wv a st o t) XC args s mc ms (z_A (wv.map Prod.fst) s.heap.size)) ws lv cells slots pc [.int x] := by
  subst hx
  exact fun H locs ls hP hD hS hl => W.widen hc hs (vx_ret (W.iret K.1 K.2.1 K.2.2.2.2.2.2.1 (fun t ht _ => ⟨hok, z_Qof hP hS isW hW ht⟩) hS.2.2 hdg K.2.2.2.2.2.2.2.1))
theorem z_lret {wv : va_W} {mc ms : Nat} (K : z_K p l s m args meth c G (z_A (wv.map Prod.fst) s.heap.size) D tys cc nL (some .long) Ts own) {x y : Int64} (hdg : decode cc pc = .ok (.lreturn, 1)) (hx : x = y) (isW : List Nat) (hW : isW.map (fun i => ws[i]?) = wv.map some) (hc : cells ≤ mc) (hs : slots ≤ ms) : Z p l e R s m args below meth c D nL G (z_A (wv.map Prod.fst) s.heap.size) (MQ below (z_Q D (some (.long y)) wv) args s mc ms (z_A (wv.map Prod.fst) s.heap.size)) ws lv cells slots pc [.long x] := by
  subst hx
  exact fun H locs ls hP hD hS hl => W.widen hc hs (W.lret K.1 K.2.1 K.2.2.2.2.2.2.1 (fun t ht _ => z_Qof hP hS isW hW ht) hS.2.2 hdg K.2.2.2.2.2.2.2.1)
theorem z_lretX {wv : va_W} {mc ms : Nat} (K : z_K p l s m args meth c G (z_A (wv.map Prod.fst) s.heap.size) D tys cc nL (some .long) Ts own) {x y : Int64} {ok : Prop} {XC : String → State → State → Prop} (hok : ok) (hdg : decode cc pc = .ok (.lreturn, 1)) (hx : x = y) (isW : List Nat) (hW : isW.map (fun i => ws[i]?) = wv.map some) (hc : cells ≤ mc) (hs : slots ≤ ms) : Z p l e R s m args below meth c D nL G (z_A (wv.map Prod.fst) s.heap.size) (vx_MQ below (fun a st o t => ok ∧ z_Q D (some (.long y)) wv a st o t) XC args s mc ms (z_A (wv.map Prod.fst) s.heap.size)) ws lv cells slots pc [.long x] := by
  subst hx
  exact fun H locs ls hP hD hS hl => W.widen hc hs (vx_ret (W.lret K.1 K.2.1 K.2.2.2.2.2.2.1 (fun t ht _ => ⟨hok, z_Qof hP hS isW hW ht⟩) hS.2.2 hdg K.2.2.2.2.2.2.2.1))
theorem z_dret {wv : va_W} {mc ms : Nat} (K : z_K p l s m args meth c G (z_A (wv.map Prod.fst) s.heap.size) D tys cc nL (some .double) Ts own) {x y : UInt64} (hdg : decode cc pc = .ok (.dreturn, 1)) (hx : x = y) (isW : List Nat) (hW : isW.map (fun i => ws[i]?) = wv.map some) (hc : cells ≤ mc) (hs : slots ≤ ms) : Z p l e R s m args below meth c D nL G (z_A (wv.map Prod.fst) s.heap.size) (MQ below (z_Q D (some (.double y)) wv) args s mc ms (z_A (wv.map Prod.fst) s.heap.size)) ws lv cells slots pc [.double x] := by
  subst hx
  exact fun H locs ls hP hD hS hl => W.widen hc hs (W.dret K.1 K.2.1 K.2.2.2.2.2.2.1 (fun t ht _ => z_Qof hP hS isW hW ht) hS.2.2 hdg K.2.2.2.2.2.2.2.1)
theorem z_dretX {wv : va_W} {mc ms : Nat} (K : z_K p l s m args meth c G (z_A (wv.map Prod.fst) s.heap.size) D tys cc nL (some .double) Ts own) {x y : UInt64} {ok : Prop} {XC : String → State → State → Prop} (hok : ok) (hdg : decode cc pc = .ok (.dreturn, 1)) (hx : x = y) (isW : List Nat) (hW : isW.map (fun i => ws[i]?) = wv.map some) (hc : cells ≤ mc) (hs : slots ≤ ms) : Z p l e R s m args below meth c D nL G (z_A (wv.map Prod.fst) s.heap.size) (vx_MQ below (fun a st o t => ok ∧ z_Q D (some (.double y)) wv a st o t) XC args s mc ms (z_A (wv.map Prod.fst) s.heap.size)) ws lv cells slots pc [.double x] := by
  subst hx
  exact fun H locs ls hP hD hS hl => W.widen hc hs (vx_ret (W.dret K.1 K.2.1 K.2.2.2.2.2.2.1 (fun t ht _ => ⟨hok, z_Qof hP hS isW hW ht⟩) hS.2.2 hdg K.2.2.2.2.2.2.2.1))
theorem z_zret {wv : va_W} {mc ms : Nat} (K : z_K p l s m args meth c G (z_A (wv.map Prod.fst) s.heap.size) D tys cc nL (some .boolean) Ts own) {x : Int32} {y : Bool} (hdg : decode cc pc = .ok (.ireturn, 1)) (hx : x = z_b y) (isW : List Nat) (hW : isW.map (fun i => ws[i]?) = wv.map some) (hc : cells ≤ mc) (hs : slots ≤ ms) : Z p l e R s m args below meth c D nL G (z_A (wv.map Prod.fst) s.heap.size) (MQ below (z_Q D (some (.int (z_b y))) wv) args s mc ms (z_A (wv.map Prod.fst) s.heap.size)) ws lv cells slots pc [.int x] := by
  subst hx
  exact fun H locs ls hP hD hS hl => W.widen hc hs (W.zret K.1 K.2.1 K.2.2.2.2.2.2.1 (by cases y <;> rfl) (fun t ht _ => z_Qof hP hS isW hW ht) hS.2.2 hdg K.2.2.2.2.2.2.2.1)
theorem z_vret {wv : va_W} {mc ms : Nat} (K : z_K p l s m args meth c G (z_A (wv.map Prod.fst) s.heap.size) D tys cc nL (none) Ts own) (hdg : decode cc pc = .ok (.return_, 1)) (isW : List Nat) (hW : isW.map (fun i => ws[i]?) = wv.map some) (hc : cells ≤ mc) (hs : slots ≤ ms) : Z p l e R s m args below meth c D nL G (z_A (wv.map Prod.fst) s.heap.size) (MQ below (z_Q D none wv) args s mc ms (z_A (wv.map Prod.fst) s.heap.size)) ws lv cells slots pc [] :=
  fun H locs ls hP hD hS hl => W.widen hc hs (W.vret K.1 K.2.1 K.2.2.2.2.2.2.1 (fun t ht _ => z_Qof hP hS isW hW ht) hS.2.2 hdg K.2.2.2.2.2.2.2.1)
theorem z_zretX {wv : va_W} {mc ms : Nat} (K : z_K p l s m args meth c G (z_A (wv.map Prod.fst) s.heap.size) D tys cc nL (some .boolean) Ts own) {x : Int32} {y : Bool} {ok : Prop} {XC : String → State → State → Prop} (hok : ok) (hdg : decode cc pc = .ok (.ireturn, 1)) (hx : x = z_b y) (isW : List Nat) (hW : isW.map (fun i => ws[i]?) = wv.map some) (hc : cells ≤ mc) (hs : slots ≤ ms) : Z p l e R s m args below meth c D nL G (z_A (wv.map Prod.fst) s.heap.size) (vx_MQ below (fun a st o t => ok ∧ z_Q D (some (.int (z_b y))) wv a st o t) XC args s mc ms (z_A (wv.map Prod.fst) s.heap.size)) ws lv cells slots pc [.int x] := by
  subst hx
  exact fun H locs ls hP hD hS hl => W.widen hc hs (vx_ret (W.zret K.1 K.2.1 K.2.2.2.2.2.2.1 (by cases y <;> rfl) (fun t ht _ => ⟨hok, z_Qof hP hS isW hW ht⟩) hS.2.2 hdg K.2.2.2.2.2.2.2.1))
theorem z_vretX {wv : va_W} {mc ms : Nat} (K : z_K p l s m args meth c G (z_A (wv.map Prod.fst) s.heap.size) D tys cc nL (none) Ts own) {ok : Prop} {XC : String → State → State → Prop} (hok : ok) (hdg : decode cc pc = .ok (.return_, 1)) (isW : List Nat) (hW : isW.map (fun i => ws[i]?) = wv.map some) (hc : cells ≤ mc) (hs : slots ≤ ms) : Z p l e R s m args below meth c D nL G (z_A (wv.map Prod.fst) s.heap.size) (vx_MQ below (fun a st o t => ok ∧ z_Q D none wv a st o t) XC args s mc ms (z_A (wv.map Prod.fst) s.heap.size)) ws lv cells slots pc [] :=
  fun H locs ls hP hD hS hl => W.widen hc hs (vx_ret (W.vret K.1 K.2.1 K.2.2.2.2.2.2.1 (fun t ht _ => ⟨hok, z_Qof hP hS isW hW ht⟩) hS.2.2 hdg K.2.2.2.2.2.2.2.1))
theorem zx_out {Qc : Array Value → State → Outcome → State → Prop} {ex : String → Prop} {wv wx : va_W} {E : String} {mc ms : Nat} (K : z_K p l s m args meth c G (z_A (wv.map Prod.fst) s.heap.size) D tys cc nL ret Ts own) (htab : ∀ x ∈ c.exceptionTable.toList, False) (hch : wv.map Prod.fst = wx.map Prod.fst) (hex : ex E) (isW : List Nat) (hW : isW.map (fun i => ws[i]?) = wx.map some) (hc : cells ≤ mc) (hs : slots ≤ ms) : ZX p l e R s m args below meth c D nL G (z_A (wv.map Prod.fst) s.heap.size) (vx_MQ below Qc (z_X D ex wx) args s mc ms (z_A (wv.map Prod.fst) s.heap.size)) ws lv cells slots pc E := fun H locs ls rest q ce hP hD hS hl hce hcv hcl =>
  vx_out (fun x hx => (htab x hx).elim) K.2.2.2.2.2.2.2.1 hce hcv hcl (fun t ht _ => ⟨hex, by rw [ht]; exact z_subP hP isW hW, hch ▸ z_frOf hS ht⟩) hS.2.2 hc hs
theorem z_throw {Qc : Array Value → State → Outcome → State → Prop} {ex : String → Prop} {wv wx : va_W} {mc ms ik is ic : Nat} {cls text : String} (K : z_K p l s m args meth c G (z_A (wv.map Prod.fst) s.heap.size) D tys cc nL ret Ts "FableIndex") (htab : ∀ x ∈ c.exceptionTable.toList, False) (hch : wv.map Prod.fst = wx.map Prod.fst) (hcls : Bundle.fit cls = true) (hk : Cond.classLink "FableIndex" ik cls ∈ Ts) (hini : Cond.initialized cls ∈ Ts) (hstr : (is, text) ∈ z_strs) (hcast : (cls, cls) ∈ z_casts)
    (hng : ∀ w ∈ (vx_atS "FableIndex" ic cls ["java/lang/RuntimeException", "java/lang/Exception"]).filter (fun w => !goodWord w), w ∈ (Cond.castable cls cls :: z_decls.map Cond.declares)) (hgw : (Cond.classLink "FableIndex" ik cls :: Cond.initialized cls :: vx_atS "FableIndex" ic cls ["java/lang/RuntimeException", "java/lang/Exception"]).all vx_ot = true) (hat : ∀ w ∈ (vx_atS "FableIndex" ic cls ["java/lang/RuntimeException", "java/lang/Exception"]).filter goodWord, w ∈ Ts)
    (d0 : decode cc pc = .ok (.new ik, 3)) (d3 : decode cc (pc + 3) = .ok (.dup, 1)) (d4 : decode cc (pc + 4) = .ok (.ldc is, 2)) (d6 : decode cc (pc + 6) = .ok (.invokespecial ic, 3)) (d9 : decode cc (pc + 9) = .ok (.athrow, 1))
    (hex : ex cls) (isW : List Nat) (hW : isW.map (fun i => ws[i]?) = wx.map some) (hcat : (st.map fun v => v.category).sum + 82 ≤ R.locals) (hRf : 5 < R.frames) (hRc : cells + 1 ≤ R.cells) (hRs : slots + 6 ≤ R.slots) (hc : cells + 1 ≤ mc) (hs : slots + 6 ≤ ms) : Z p l e R s m args below meth c D nL G (z_A (wv.map Prod.fst) s.heap.size) (vx_MQ below Qc (z_X D ex wx) args s mc ms (z_A (wv.map Prod.fst) s.heap.size)) ws lv cells slots pc st := by
  intro H locs ls hP hD hS hl
  have hE := K.2.2.2.2.2.2.2.2.1
  obtain ⟨sa, hsa⟩ := hE.2.2.2.2.2.2.1 _ hstr
  have hts := K.2.2.2.2.1
  refine vx_throwS (A := z_A (wv.map Prod.fst) s.heap.size) (names := ["java/lang/RuntimeException", "java/lang/Exception"]) (sa := sa) K.1 K.2.1 hE.2.1 K.2.2.2.1 hcls (by decide +kernel) (hts _ hk) (hts _ hini) hsa (vx_hat (B := (Cond.castable cls cls :: z_decls.map Cond.declares)) (fun w hw => hts w (hat w hw)) hng (vx_c (va_Nw.use rfl (hE.2.2.2.2.1.1 _ hcast)) (fun w hw => by obtain ⟨q, hq, e⟩ := List.mem_map.mp hw; rw [← e]; exact va_Nw.use rfl (hE.2.2.2.2.1.2 q hq)))) (fun w hw => List.all_eq_true.mp hgw w hw)
    (hE.2.2.2.2.2.2.2.1.narrow K.2.2.2.2.2.2.2.2.2.1) (hE.2.2.2.2.2.2.2.2.narrow K.2.2.2.2.2.2.2.2.2.1) hS (by rw [K.2.2.1]; exact hl.1) d0 d3 d4 d6 d9 (fun x hx => (htab x hx).elim) (by simpa using hRf) (by simpa using hcat) hRc hRs K.2.2.2.2.2.2.2.1 ?_ hS.2.2 hc hs
  intro t hvm h1 h2
  refine ⟨hex, ?_, ?_⟩
  · intro k q hk
    have hq := z_subP hP isW hW k q hk
    exact hq.kept (h2 _ hq.lt)
  · exact ⟨Nat.le_trans hS.1 h1, fun q g1 g2 => by rw [h2 q (Nat.lt_of_lt_of_le g1 hS.1)]; exact hS.2.1 q g1 (fun h => h.elim (hch ▸ g2) (fun h => absurd h (Nat.not_le.mpr g1)))⟩
theorem z_ng1 : ∀ w ∈ (vx_atS "FableIndex" 242 z_IOB ["java/lang/RuntimeException", "java/lang/Exception"]).filter (fun w => !goodWord w), w ∈ (Cond.castable z_IOB z_IOB :: z_decls.map Cond.declares) := by decide +kernel
theorem z_gw1 : (Cond.classLink "FableIndex" 238 z_IOB :: Cond.initialized z_IOB :: vx_atS "FableIndex" 242 z_IOB ["java/lang/RuntimeException", "java/lang/Exception"]).all vx_ot = true := by decide +kernel
theorem z_ng2 : ∀ w ∈ (vx_atS "FableIndex" 62 z_ISE ["java/lang/RuntimeException", "java/lang/Exception"]).filter (fun w => !goodWord w), w ∈ (Cond.castable z_ISE z_ISE :: z_decls.map Cond.declares) := by decide +kernel
theorem z_gw2 : (Cond.classLink "FableIndex" 58 z_ISE :: Cond.initialized z_ISE :: vx_atS "FableIndex" 62 z_ISE ["java/lang/RuntimeException", "java/lang/Exception"]).all vx_ot = true := by decide +kernel
theorem z_ng3 : ∀ w ∈ (vx_atS "FableIndex" 89 z_IAE ["java/lang/RuntimeException", "java/lang/Exception"]).filter (fun w => !goodWord w), w ∈ (Cond.castable z_IAE z_IAE :: z_decls.map Cond.declares) := by decide +kernel
theorem z_gw3 : (Cond.classLink "FableIndex" 85 z_IAE :: Cond.initialized z_IAE :: vx_atS "FableIndex" 89 z_IAE ["java/lang/RuntimeException", "java/lang/Exception"]).all vx_ot = true := by decide +kernel

theorem z_inc1 (k : Nat) : nI k + Int32.ofInt 1 = nI (k + 1) := nI_1 k
theorem z_memA {ch : List Nat} {sz a : Nat} (i : Nat) (h : ch[i]? = some a) : z_A ch sz a := Or.inl (List.mem_of_getElem? h)
theorem z_ialdN (K : z_K p l s m args meth c G A D tys cc nL ret Ts own) (q0 t0 k : Nat) {a : Nat} {cA : ClassId} {n : Nat} {f : Nat → Int32} (hk : k < n) (hn : n < 2 ^ 31) (ha : ws[q0]? = some (a, .inl (cA, n, .inl f))) (ht : tys[t0]? = some (cA, .int)) (hdg : decode cc pc = .ok (.iaload, 1)) (kk : Z p l e R s m args below meth c D nL G A Q ws lv cells slots (pc + 1) (.int (f k) :: st)) : Z p l e R s m args below meth c D nL G A Q ws lv cells slots pc (.int (nI k) :: .ref a :: st) :=
  z_iald K q0 t0 ha ht (vp_in_nI hk hn) hdg (by rw [nI_clamp (Nat.lt_trans hk hn)]) kk
theorem z_iastN (K : z_K p l s m args meth c G A D tys cc nL ret Ts own) (q0 t0 k : Nat) {a : Nat} {cA : ClassId} {n : Nat} {f : Nat → Int32} {x : Int32} (hk : k < n) (hn : n < 2 ^ 31) (ha : ws[q0]? = some (a, .inl (cA, n, .inl f))) (ht : tys[t0]? = some (cA, .int)) (hdg : decode cc pc = .ok (.iastore, 1)) (hA : A a) {ws' : va_W} (hws : ws.set q0 (a, .inl (cA, n, .inl (upd f k x))) = ws') (kk : Z p l e R s m args below meth c D nL G A Q ws' lv cells slots (pc + 1) st) : Z p l e R s m args below meth c D nL G A Q ws lv cells slots pc (.int x :: .int (nI k) :: .ref a :: st) :=
  z_iast K q0 t0 ha ht (vp_in_nI hk hn) hdg hA (nI_clamp (Nat.lt_trans hk hn)) hws kk
theorem z_laldN (K : z_K p l s m args meth c G A D tys cc nL ret Ts own) (q0 t0 k : Nat) {a : Nat} {cA : ClassId} {n : Nat} {f : Nat → Int64} (hk : k < n) (hn : n < 2 ^ 31) (ha : ws[q0]? = some (a, .inl (cA, n, .inr (.inl f)))) (ht : tys[t0]? = some (cA, .long)) (hdg : decode cc pc = .ok (.laload, 1)) (kk : Z p l e R s m args below meth c D nL G A Q ws lv cells slots (pc + 1) (.long (f k) :: st)) : Z p l e R s m args below meth c D nL G A Q ws lv cells slots pc (.int (nI k) :: .ref a :: st) :=
  z_lald K q0 t0 ha ht (vp_in_nI hk hn) hdg (by rw [nI_clamp (Nat.lt_trans hk hn)]) kk
theorem z_lastN (K : z_K p l s m args meth c G A D tys cc nL ret Ts own) (q0 t0 k : Nat) {a : Nat} {cA : ClassId} {n : Nat} {f : Nat → Int64} {x : Int64} (hk : k < n) (hn : n < 2 ^ 31) (ha : ws[q0]? = some (a, .inl (cA, n, .inr (.inl f)))) (ht : tys[t0]? = some (cA, .long)) (hdg : decode cc pc = .ok (.lastore, 1)) (hA : A a) {ws' : va_W} (hws : ws.set q0 (a, .inl (cA, n, .inr (.inl (vp_updL f k x)))) = ws') (kk : Z p l e R s m args below meth c D nL G A Q ws' lv cells slots (pc + 1) st) : Z p l e R s m args below meth c D nL G A Q ws lv cells slots pc (.long x :: .int (nI k) :: .ref a :: st) :=
  z_last K q0 t0 ha ht (vp_in_nI hk hn) hdg hA (nI_clamp (Nat.lt_trans hk hn)) hws kk
theorem z_ws {ws' : va_W} (h : ws = ws') (kk : Z p l e R s m args below meth c D nL G A Q ws' lv cells slots pc st) : Z p l e R s m args below meth c D nL G A Q ws lv cells slots pc st := by rw [h]; exact kk
theorem z_st {st' : List Value} (h : st = st') (kk : Z p l e R s m args below meth c D nL G A Q ws lv cells slots pc st') : Z p l e R s m args below meth c D nL G A Q ws lv cells slots pc st := by rw [h]; exact kk
theorem z_loop {wsf : Nat → va_W} {lvf : Nat → List (Nat × Value)} (n : Nat) (hw : wsf 0 = ws) (hl : lvf 0 = lv) (h0 : Z p l e R s m args below meth c D nL G A Q (wsf n) (lvf n) cells slots pc st) (hs : ∀ k, k < n → Z p l e R s m args below meth c D nL G A Q (wsf (k + 1)) (lvf (k + 1)) cells slots pc st → Z p l e R s m args below meth c D nL G A Q (wsf k) (lvf k) cells slots pc st) : Z p l e R s m args below meth c D nL G A Q ws lv cells slots pc st := by
  subst hw hl
  exact z_down (P := fun k => Z p l e R s m args below meth c D nL G A Q (wsf k) (lvf k) cells slots pc st) n h0 hs 0 (Nat.zero_le _)
theorem z_upI {wsf : Nat → va_W} {lvf : Nat → List (Nat × Value)} (inv : Nat → Prop) (n : Nat) (hw : wsf n = ws) (hl : lvf n = lv) (hi : inv n) (h0 : inv 0 → Z p l e R s m args below meth c D nL G A Q (wsf 0) (lvf 0) cells slots pc st) (hs : ∀ k, k < n → (inv k → Z p l e R s m args below meth c D nL G A Q (wsf k) (lvf k) cells slots pc st) → inv (k + 1) → Z p l e R s m args below meth c D nL G A Q (wsf (k + 1)) (lvf (k + 1)) cells slots pc st) : Z p l e R s m args below meth c D nL G A Q ws lv cells slots pc st := by
  subst hw hl
  have key : ∀ k, k ≤ n → inv k → Z p l e R s m args below meth c D nL G A Q (wsf k) (lvf k) cells slots pc st := by
    intro k
    induction k with
    | zero => exact fun _ h => h0 h
    | succ k ih => exact fun hk h => hs k (by omega) (fun h' => ih (by omega) h') h
  exact key n (Nat.le_refl _) hi
theorem z_loopI {wsf : Nat → va_W} {lvf : Nat → List (Nat × Value)} (inv : Nat → Prop) (n : Nat) (hw : wsf 0 = ws) (hl : lvf 0 = lv) (hi : inv 0) (h0 : inv n → Z p l e R s m args below meth c D nL G A Q (wsf n) (lvf n) cells slots pc st) (hs : ∀ k, k < n → (inv (k + 1) → Z p l e R s m args below meth c D nL G A Q (wsf (k + 1)) (lvf (k + 1)) cells slots pc st) → inv k → Z p l e R s m args below meth c D nL G A Q (wsf k) (lvf k) cells slots pc st) : Z p l e R s m args below meth c D nL G A Q ws lv cells slots pc st := by
  subst hw hl
  exact z_down (P := fun k => inv k → Z p l e R s m args below meth c D nL G A Q (wsf k) (lvf k) cells slots pc st) n h0 hs 0 (Nat.zero_le _) hi

end ZENDS
