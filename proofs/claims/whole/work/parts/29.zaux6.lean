section ZAUX6
variable {p : Program} {l : Launch} {e : Env} {R : Room} {s : State} {m : MethodId} {args : Array Value} {below : List Frame} {meth : Method} {c : Code} {D : va_G} {nL : Nat} {G A : Nat → Prop} {Q : State → Prop} {ws : va_W} {lv : List (Nat × Value)} {cells slots pc : Nat} {st : List Value} {cc : ByteArray} {ret : Option FieldType} {Ts : List Cond} {own : String} {tys : List (ClassId × FieldType)}
/-! the law: its wrappers that catch, its calls, its script, its switch, its array -/
theorem z_ofWXH {y : MethodName} {wy wy' : List Cond} {rm : Room} {av : List Value} {wp wv wx : va_W} {v : Option Value} {ok : Prop} {ex : String → Prop} {mc ms : Nat} {hh : List (Nat × Nat × Nat × Nat)} (hy : plainName y.cls = true) (hw : wy = Cond.codeWith y cc nL ret hh :: wy') (hav : (lg_sl av).length ≤ nL) (isG : List Nat) (hG : isG.map (fun i => (wp[i]?).map Prod.fst) = wv.map (fun w => some w.1)) {lv0 : List (Nat × Value)} (hlv : lv_args 0 av = lv0)
    (body : ∀ (p : Program) (e : Env) (s : State) (m : MethodId) (args : Array Value) (below : List Frame) (meth : Method) (c : Code), z_K p l s m args meth c G (z_A (wv.map Prod.fst) s.heap.size) D tys cc nL ret wy y.cls → c.exceptionTable.toList = tableOf hh → Z p l e rm s m args below meth c D nL G (z_A (wv.map Prod.fst) s.heap.size) (vx_MQ below (fun a st o t => ok ∧ z_Q D v wv a st o t) (z_X D ex wx) args s mc ms (z_A (wv.map Prod.fst) s.heap.size)) wp lv0 0 0 0 []) : z_MX l y wy rm G D tys av wp ok v wv ex wx mc ms := by
  intro sz
  refine vx_ofWH (cc := cc) (maxL := nL) (ret := ret) (hh := hh) hy hw ?_
  intro p e s m args below meth c s₁ B hml hv
  obtain ⟨hsz, rfl, hP, hE, hD⟩ := hv
  subst hsz
  have hts := atoms_spec (ws := wy) B.pre
  have htab : c.exceptionTable.toList = tableOf hh := vx_table (x := y) B (hts _ (by rw [hw]; exact List.mem_cons_self))
  have K : z_K p l s m av.toArray meth c G (z_A (wv.map Prod.fst) s.heap.size) D tys cc nL ret wy y.cls := ⟨B.exec, B.bytes, hml, findClass_of_methodNamed B.named, hts, hE.1, B.returns, B.notSynchronized, hE, z_AG hE hD isG hG, fun q h => Or.inr h⟩
  rw [lg_entry_eq]
  exact body p e s m _ below meth c K htab s.heap [] _ hP hD va_S.rf (hlv ▸ lv_entry av hav)
theorem zx_catch {E name : String} {hh : List (Nat × Nat × Nat × Nat)} (K : z_K p l s m args meth c G A D tys cc nL ret Ts own) (htab : c.exceptionTable.toList = tableOf hh) (pre : List ExceptionTableEntry) (x : ExceptionTableEntry) (suf : List ExceptionTableEntry) (hsplit : tableOf hh = pre ++ x :: suf) (hpass : ∀ z ∈ pre, z.catchType ≠ 0 ∧ ∃ nm : String, Cond.classLink own z.catchType nm ∈ Ts ∧ (E, nm) ∈ z_ncs) (hx : covers x pc = true) (h0 : x.catchType ≠ 0) (hlink : Cond.classLink own x.catchType name ∈ Ts) (hcast : (E, name) ∈ z_casts)
    (kk : ∀ q : Nat, Z p l e R s m args below meth c D nL G A Q ws lv cells slots x.handlerPc ([.ref q])) : ZX p l e R s m args below meth c D nL G A Q ws lv cells slots pc E := fun H locs ls rest q ce hP hD hS hl hce hcv hcl =>
  vx_catch K.2.2.2.1 pre x suf (htab.trans hsplit) (fun z hz => (hpass z hz).elim fun h1 ⟨nm, h2, h3⟩ => Or.inr ⟨h1, nm, K.2.2.2.2.1 _ h2, K.2.2.2.2.2.2.2.2.1.2.2.2.2.2.1 _ h3⟩) hx h0 (K.2.2.2.2.1 _ hlink) (va_Nw.use rfl (K.2.2.2.2.2.2.2.2.1.2.2.2.2.1.1 _ hcast)) hce hcv hcl (kk q H locs ls hP hD hS hl)
theorem zx_no {E : String} {c' : Nat} {e1 e2 : String} (h : c' = 0) (hE : z_exc e1 e2 c' E) : ZX p l e R s m args below meth c D nL G A Q ws lv cells slots pc E := by
  subst h
  rcases hE with ⟨h, _⟩ | ⟨h, _⟩ <;> cases h
theorem cd1_ne2 {a : Bool} : cd1 a ≠ 2 := by unfold cd1; split <;> decide
/-- the law's own calls: what a callee writes is a cell of the world, and each is new since the law's start -/
theorem z_inG {wv : va_W} {isW : List Nat} (hGA : ∀ q, G q → A q) (hD : va_D G ws) (hW : isW.map (fun i => (ws[i]?).map Prod.fst) = wv.map (fun w => some w.1)) : ∀ q ∈ wv.map Prod.fst, A q := by
  intro q hq
  obtain ⟨w, hw, e⟩ := List.mem_map.mp hq
  obtain ⟨j, hj⟩ := List.mem_iff_getElem?.mp hw
  have h1 : (isW.map (fun i => (ws[i]?).map Prod.fst))[j]? = some (some w.1) := by rw [hW, List.getElem?_map, hj]; rfl
  rw [List.getElem?_map] at h1
  cases hi : isW[j]? with
  | none => rw [hi] at h1; cases h1
  | some i =>
    rw [hi] at h1
    have h2 : (ws[i]?).map Prod.fst = some w.1 := Option.some.inj h1
    cases hwi : ws[i]? with
    | none => rw [hwi] at h2; cases h2
    | some e' =>
      rw [hwi] at h2
      have h3 : e'.1 = w.1 := Option.some.inj h2
      rw [← e, ← h3]
      exact hGA _ (hD.2 i e' hwi)
theorem z_callVL {y : MethodName} {wy wy' : List Cond} {rm : Room} {b : Nat} {As : List Value} {wp wv ws' : va_W} {v : Option Value} {mc ms index maxL : Nat} {by' : ByteArray} {ry : Option FieldType} {C : String} {rest st' : List Value} {fs : List Value} {T : u_T} {N : Nat}
    (K : z_K p l s m args meth c G A D tys cc nL ret Ts own) (hGA : ∀ q, G q → A q) (hM : z_M l y wy rm G D tys (.ref b :: As) wp v wv mc ms) (hG : GoodIn Ts (wsV own index C y wy)) (hw : wy = Cond.code y by' maxL ry :: wy') (n ci : Nat)
    (hd : y.cls = C ∧ y.cls ≠ "java/lang/invoke/MethodHandle" ∧ y.cls ≠ "java/lang/invoke/VarHandle" ∧ (parseMethodDescriptor y.desc).map (fun d => d.parameters.length) = some n) (hc : vwCl[ci]? = some (C, T, N)) (hdg : decode cc pc = .ok (.invokevirtual index, 3))
    (is : List Nat) (q0 : Nat) (isW : List Nat) (hrc : rm.cells = mc) (hrs : rm.slots = ms) (hR : rm.frames + 1 ≤ R.frames ∧ 8 + (maxL + 11) + rm.locals ≤ R.locals) (hf : cells + mc ≤ R.cells ∧ slots + ms ≤ R.slots)
    (hn : va_nd is = true) (hC : is.map (fun i => ws[i]?) = wp.map some) (he : ws[q0]? = some (b, .inr (ci, fs))) (hlen : As.length = n) (hstk : st = As.reverse ++ .ref b :: rest) (hcat : (rest.map fun v => v.category).sum ≤ 8)
    (hW : isW.map (fun i => (ws[i]?).map Prod.fst) = wv.map (fun w => some w.1)) (hws : z_set ws isW wv = ws') (hst : v.toList ++ rest = st')
    (kk : Z p l e R s m args below meth c D nL G A Q ws' lv (cells + mc) (slots + ms) (pc + 3) st') : Z p l e R s m args below meth c D nL G A Q ws lv cells slots pc st := fun H locs ls hP hD hS hl =>
  z_call K (fun H locs ls hP hD hS hl => va_runV ⟨K.1, K.2.1, K.2.2.1, K.2.2.2.1, K.2.2.2.2.1⟩ (hM H.size) (cwV n K.2.2.2.2.1 hG hw hrc hrs hd hR) ⟨z_blind, va_recv K.2.2.2.2.2.1 hP hc he, fun U hU hW => z_preP K.2.2.2.2.2.2.2.2.1 K.2.2.2.2.2.2.2.2.2.1 hP hD hS is hn hC U hU hW⟩ rfl hlen hl.1 hstk (lv_room hcat) hdg hf) isW hW (z_inG hGA hD hW) hws hst kk H locs ls hP hD hS hl
theorem z_callSH {y : MethodName} {wy wy' : List Cond} {rm : Room} {As : List Value} {wp wv wx ws' : va_W} {v : Option Value} {mc ms index maxL : Nat} {by' : ByteArray} {ry : Option FieldType} {rest st' : List Value} {hh : List (Nat × Nat × Nat × Nat)}
    (K : z_K p l s m args meth c G A D tys cc nL ret Ts own) (hGA : ∀ q, G q → A q) (hM : z_MX l y wy rm G D tys As wp True v wv (fun _ => False) wx mc ms) (hG : GoodIn Ts (va_wsS own index y wy)) (hw : wy = Cond.codeWith y by' maxL ry hh :: wy') (n : Nat)
    (hd : y.cls ≠ "java/lang/invoke/MethodHandle" ∧ y.cls ≠ "java/lang/invoke/VarHandle" ∧ (parseMethodDescriptor y.desc).map (fun d => d.parameters.length) = some n) (hdg : decode cc pc = .ok (.invokestatic index, 3))
    (is : List Nat) (isW : List Nat) (hrc : rm.cells = mc) (hrs : rm.slots = ms) (hR : rm.frames + 1 ≤ R.frames ∧ 8 + (maxL + 11) + rm.locals ≤ R.locals) (hf : cells + mc ≤ R.cells ∧ slots + ms ≤ R.slots)
    (hn : va_nd is = true) (hC : is.map (fun i => ws[i]?) = wp.map some) (hlen : As.length = n) (hstk : st = As.reverse ++ rest) (hcat : (rest.map fun v => v.category).sum ≤ 8)
    (hW : isW.map (fun i => (ws[i]?).map Prod.fst) = wv.map (fun w => some w.1)) (hws : z_set ws isW wv = ws') (hst : v.toList ++ rest = st')
    (hwx : wx.map Prod.fst = wv.map Prod.fst) (hwx2 : isW.map (fun i => ws[i]?) = wx.map some) (hwx3 : z_set ws isW wx = ws)
    (kk : Z p l e R s m args below meth c D nL G A Q ws' lv (cells + mc) (slots + ms) (pc + 3) st') : Z p l e R s m args below meth c D nL G A Q ws lv cells slots pc st := fun H locs ls hP hD hS hl =>
  z_callX K (fun H locs ls hP hD hS hl => vx_runSX (hh := hh) ⟨K.1, K.2.1, K.2.2.1, K.2.2.2.1, K.2.2.2.2.1⟩ (hM H.size) (vx_cwSW n K.2.2.2.2.1 hG hw hrc hrs hd hR) ⟨z_blind, fun U hU hW => z_preP K.2.2.2.2.2.2.2.2.1 K.2.2.2.2.2.2.2.2.2.1 hP hD hS is hn hC U hU hW⟩ rfl hlen hl.1 hstk (lv_room hcat) hdg hf) isW hW (z_inG hGA hD hW) hws hst hwx hwx2 hwx3 (fun E h => h.elim) (fun _ => kk) H locs ls hP hD hS hl
theorem z_newL (K : z_K p l s m args meth c G A D tys cc nL ret Ts own) (harr : Cond.arrayClass .long ∈ Ts) (t0 : Nat) {cJ : ClassId} (ht : tys[t0]? = some (cJ, .long)) {n : Int32} (N : Nat) (hn : n = nI N) (hN : N < 65536) (hdg : decode cc pc = .ok (.newarray .long, 2)) (hcc : cells + 1 ≤ R.cells) (hsl : slots + N ≤ R.slots) (kk : ∀ q : Nat, s.heap.size ≤ q → Z p l e R s m args below meth c D nL G A Q (ws ++ [(q, .inl (cJ, N, .inr (.inl (fun _ => 0))))]) lv (cells + 1) (slots + N) (pc + 2) (.ref q :: st)) : Z p l e R s m args below meth c D nL G A Q ws lv cells slots pc (.int n :: st) := by
  intro H locs ls hP hD hS hl
  subst hn
  have hfI : s.vm.findClass ("[" ++ (FieldType.long).toString) = some cJ := (K.2.2.2.2.2.1.2 t0 _ ht).2
  refine va_newaK K.1 K.2.1 (atype := .long) (K.2.2.2.2.1 _ harr) rfl hdg (n := nI N) (N := N) (rest := st) rfl (nI_pos (by omega)) (nI_clamp (by omega)) (by show N * 8 ≤ _; omega) hcc hsl rfl ?_
  intro H' cA h1 h2 h3 h4 h5
  have e : cA = cJ := Option.some.inj (h5.symm.trans hfI)
  subst e
  have hq : s.heap.size ≤ H.size := hS.1
  have hP' : va_P D vwCl ws H' := hP.kept (fun k q hk => h3 q.1 (hP k q hk).lt)
  refine kk H.size hq H' locs ls ?_ (hD.push hP rfl (K.2.2.2.2.2.2.2.2.1.2.2.1 _ hq)) ⟨by omega, fun q g1 g2 => by rw [h3 q (by omega)]; exact hS.2.1 q g1 g2, hS.2.2⟩ hl
  refine va_P.app hP' ?_
  intro k q hk
  have hz : k < 1 := (List.getElem?_eq_some_iff.mp hk).1
  rw [show k = 0 by omega] at hk
  cases hk
  show H'[H.size]? = some (vp_cell _ _)
  rw [h1]; rfl
theorem z_sld (K : z_K p l s m args meth c G A D tys cc nL ret Ts own) {b L : Nat} {xs : Nat → Int32} (hX : va_X b L xs s s.heap) (hbl : b < s.heap.size) (hbA : ¬ A b) (j : Nat) {i : Int32} (hi : i = nI j) (hj : j < L) (hL : L ≤ 2560) (hdg : decode cc pc = .ok (.iaload, 1)) (kk : Z p l e R s m args below meth c D nL G A Q ws lv cells slots (pc + 1) (.int (xs j) :: st)) : Z p l e R s m args below meth c D nL G A Q ws lv cells slots pc (.int i :: .ref b :: st) := fun H locs ls hP hD hS hl => by
  subst hi
  have e : (nI j).toNatClampNeg = j := nI_clamp (by omega)
  have h1 : vp_in (nI j) L := fun h => h.elim (nI_pos (by omega)) (fun h => by rw [e] at h; omega)
  refine va_sld K.1 K.2.1 hX hbl hbA hS h1 hdg ?_
  rw [e]
  exact kk H locs ls hP hD hS hl
theorem z_slen (K : z_K p l s m args meth c G A D tys cc nL ret Ts own) {b L : Nat} {xs : Nat → Int32} (hX : va_X b L xs s s.heap) (hbl : b < s.heap.size) (hbA : ¬ A b) (hdg : decode cc pc = .ok (.arraylength, 1)) (kk : Z p l e R s m args below meth c D nL G A Q ws lv cells slots (pc + 1) (.int (nI L) :: st)) : Z p l e R s m args below meth c D nL G A Q ws lv cells slots pc (.ref b :: st) := fun H locs ls hP hD hS hl =>
  va_slen K.1 K.2.1 hX hbl hbA hS hdg (kk H locs ls hP hD hS hl)
theorem z_tsw (K : z_K p l s m args meth c G A D tys cc nL ret Ts own) {dflt lo hi : Int} {offs : Array Int} {len : Nat} {x : Int32} {off : Int} (tgt : Nat) (hdg : decode cc pc = .ok (.tableswitch dflt lo hi offs, len)) (h1 : ¬ x.toInt < lo) (h2 : ¬ hi < x.toInt) (ho : offs[(x.toInt - lo).toNat]? = some off) (ht : (pc : Int) + off = (tgt : Int)) (kk : Z p l e R s m args below meth c D nL G A Q ws lv cells slots tgt st) : Z p l e R s m args below meth c D nL G A Q ws lv cells slots pc (.int x :: st) := fun H locs ls hP hD hS hl =>
  lv_tableIn K.1 K.2.1 hdg h1 h2 ho ht (kk H locs ls hP hD hS hl)
theorem z_tswO (K : z_K p l s m args meth c G A D tys cc nL ret Ts own) {dflt lo hi : Int} {offs : Array Int} {len : Nat} {x : Int32} (tgt : Nat) (hdg : decode cc pc = .ok (.tableswitch dflt lo hi offs, len)) (h : x.toInt < lo ∨ hi < x.toInt) (ht : (pc : Int) + dflt = (tgt : Int)) (kk : Z p l e R s m args below meth c D nL G A Q ws lv cells slots tgt st) : Z p l e R s m args below meth c D nL G A Q ws lv cells slots pc (.int x :: st) := fun H locs ls hP hD hS hl =>
  lv_tableOut K.1 K.2.1 hdg h ht (kk H locs ls hP hD hS hl)

end ZAUX6
