section ZAUX5
variable {p : Program} {l : Launch} {e : Env} {R : Room} {s : State} {m : MethodId} {args : Array Value} {below : List Frame} {meth : Method} {c : Code} {D : va_G} {nL : Nat} {G A : Nat → Prop} {Q : State → Prop} {ws : va_W} {lv : List (Nat × Value)} {cells slots pc : Nat} {st : List Value} {cc : ByteArray} {ret : Option FieldType} {Ts : List Cond} {own : String} {tys : List (ClassId × FieldType)}
/-- a new object of a class of this program -/
theorem z_newO (K : z_K p l s m args meth c G A D tys cc nL ret Ts own) {C : String} {T : u_T} {N ci index : Nat} (hin : ∀ w ∈ u_ws C T N, w ∈ Ts) (ty : Nat → FieldType) (hty : ∀ k, k < N → parseFieldDescriptor (T k).2.2.1 = some (ty k)) (hc : vwCl[ci]? = some (C, T, N)) (hcl : Cond.classLink own index C ∈ Ts) (hinst : Cond.instantiable C N ∈ Ts) (hini : Cond.initialized C ∈ Ts) (fs : List Value) (hfs : ∀ j, j < N → defaultValue (ty j) = vp_V fs j) (hdg : decode cc pc = .ok (.new index, 3)) (hcc : cells + 1 ≤ R.cells) (hsl : slots + N ≤ R.slots)
    (kk : ∀ q : Nat, s.heap.size ≤ q → Z p l e R s m args below meth c D nL G A Q (ws ++ [(q, .inr (ci, fs))]) lv (cells + 1) (slots + N) (pc + 3) (.ref q :: st)) : Z p l e R s m args below meth c D nL G A Q ws lv cells slots pc st := by
  intro H locs ls hP hD hS hl
  have hts := K.2.2.2.2.1
  have hKn := K.2.2.2.2.2.1.1 ci _ hc
  refine W.newcK K.1 K.2.1 K.2.2.2.1 (hts _ hcl) (hts _ hinst) (hts _ hini) rfl hdg hcc hsl hKn.2.1 rfl fun H1 kC hkC e1 z1 o1 => ?_
  have hk : ∀ (k : Nat) (x : Nat × va_E), ws[k]? = some x → H1[x.1]? = H[x.1]? := fun k x hx => o1 x.1 ((hP k x hx).lt)
  refine kk H.size hS.1 H1 locs ls ((hP.kept hk).app (fun k x hx => ?_)) (hD.push hP rfl (K.2.2.2.2.2.2.2.2.1.2.2.1 _ hS.1)) ⟨Nat.le_trans hS.1 (by omega), fun x h1 h2 => (o1 x (Nat.lt_of_lt_of_le h1 hS.1)).trans (hS.2.1 x h1 h2), hS.2.2⟩ hl
  have hz : k < 1 := (List.getElem?_eq_some_iff.mp hx).1
  rw [show k = 0 by omega] at hx
  cases hx
  exact ⟨_, hc, (u_born ty hts hin hKn hkC e1 hty).to hfs⟩
/-- constructors: the object's own cell, and new ones, at addresses that come with it -/
def z_QI (D : va_G) (wf : (Nat → Nat) → va_W) (a : Nat) : Array Value → State → Outcome → State → Prop := fun _ st o t => o = .returned none ∧ (∃ b : Nat → Nat, va_P D vwCl (wf b) t.heap ∧ va_D (va_A [(a, .inr (0, []))] st.heap.size) (wf b)) ∧ z_fr [a] st t
def z_MI (l : Launch) (y : MethodName) (wy : List Cond) (rm : Room) (G : Nat → Prop) (D : va_G) (tys : List (ClassId × FieldType)) (a : Nat) (wp : va_W) (wf : (Nat → Nat) → va_W) (mc ms : Nat) : Prop :=
  ∀ sz : Nat, Met l y wy rm (z_pre l G D tys [.ref a] wp sz) (z_QI D wf a) mc ms (z_A [a] sz)
theorem z_ofWI {y : MethodName} {wy wy' : List Cond} {rm : Room} {a : Nat} {e0 : va_E} {wf : (Nat → Nat) → va_W} {mc ms : Nat} (hy : plainName y.cls = true) (hw : wy = Cond.code y cc nL ret :: wy') (hav : (lg_sl [.ref a]).length ≤ nL)
    (body : ∀ (p : Program) (e : Env) (s : State) (m : MethodId) (args : Array Value) (below : List Frame) (meth : Method) (c : Code), z_K p l s m args meth c G (z_A [a] s.heap.size) D tys cc nL ret wy y.cls → meth.name = y.name → Z p l e rm s m args below meth c D nL G (z_A [a] s.heap.size) (MQ below (z_QI D wf a) args s mc ms (z_A [a] s.heap.size)) [(a, e0)] [(0, .ref a)] 0 0 0 []) : z_MI l y wy rm G D tys a [(a, e0)] wf mc ms := by
  intro sz
  refine Met.ofW (cc := cc) (maxL := nL) (ret := ret) hy hw ?_
  intro p e s m args below meth c s₁ B hml hv
  obtain ⟨hsz, rfl, hP, hE, hD⟩ := hv
  subst hsz
  have hAG : ∀ q, z_A [a] s.heap.size q → G q := fun q h => h.elim (fun h => by rw [List.mem_singleton.mp h]; exact hD.2 0 _ rfl) (fun h => hE.2.2.1 q h)
  have K : z_K p l s m [Value.ref a].toArray meth c G (z_A [a] s.heap.size) D tys cc nL ret wy y.cls := ⟨B.exec, B.bytes, hml, findClass_of_methodNamed B.named, atoms_spec (ws := wy) B.pre, hE.1, B.returns, B.notSynchronized, hE, hAG, fun q h => Or.inr h⟩
  rw [lg_entry_eq]
  exact body p e s m _ below meth c K (name_of_methodNamed B.named B.method).1 s.heap [] _ hP hD va_S.rf (lv_entry [.ref a] hav)
theorem z_iretI {wf : (Nat → Nat) → va_W} {a mc ms : Nat} (K : z_K p l s m args meth c G (z_A [a] s.heap.size) D tys cc nL none Ts own) (hdg : decode cc pc = .ok (.return_, 1)) (b : Nat → Nat) (hb : wf b = ws) (hadr : ∀ x ∈ ws.map Prod.fst, x = a ∨ s.heap.size ≤ x) (hc : cells ≤ mc) (hs : slots ≤ ms) : Z p l e R s m args below meth c D nL G (z_A [a] s.heap.size) (MQ below (z_QI D wf a) args s mc ms (z_A [a] s.heap.size)) ws lv cells slots pc [] := by
  intro H locs ls hP hD hS hl
  subst hb
  refine W.widen hc hs (W.vret K.1 K.2.1 K.2.2.2.2.2.2.1 (fun t ht _ => ⟨rfl, ⟨b, by rw [ht]; exact hP, hD.1, fun k q hk => ?_⟩, ?_⟩) hS.2.2 hdg K.2.2.2.2.2.2.2.1)
  · rcases hadr q.1 (List.mem_map.mpr ⟨q, List.mem_of_getElem? hk, rfl⟩) with h | h
    · rw [h]; exact Or.inl ⟨0, _, rfl⟩
    · exact Or.inr h
  · exact ⟨by rw [ht]; exact hS.1, fun q h1 h2 => by rw [ht]; exact hS.2.1 q h1 (fun h => h.elim h2 (fun h => absurd h (Nat.not_le.mpr h1)))⟩
theorem z_callI {y : MethodName} {wy wy' : List Cond} {rm : Room} {b : Nat} {e0 : va_E} {wr : va_W} {wf : (Nat → Nat) → va_W} {mc ms index maxL : Nat} {by' : ByteArray}
    (K : z_K p l s m args meth c G A D tys cc nL ret Ts own) (hM : z_MI l y wy rm G D tys b [(b, e0)] wf mc ms) (hG : GoodIn Ts wy) (hw : wy = Cond.code y by' maxL none :: wy') (hini : Cond.initialized y.cls ∈ Ts) (hlk : Cond.methodLink own index y ∈ Ts) (hins : Cond.instanceMethod y ∈ Ts) (hy1 : y.name = "<init>")
    (hd : y.cls ≠ "java/lang/invoke/MethodHandle" ∧ y.cls ≠ "java/lang/invoke/VarHandle" ∧ (parseMethodDescriptor y.desc).map (fun d => d.parameters.length) = some 0) (hdg : decode cc pc = .ok (.invokespecial index, 3)) (hb : s.heap.size ≤ b)
    (q0 : Nat) (isR : List Nat) (hrc : rm.cells = mc) (hrs : rm.slots = ms) (hR : rm.frames + 1 ≤ R.frames ∧ 8 + (maxL + 11) + rm.locals ≤ R.locals) (hf : cells + mc ≤ R.cells ∧ slots + ms ≤ R.slots)
    (he : ws[q0]? = some (b, e0)) (hnr : va_nd isR = true) (hdis : ∀ i ∈ isR, i ∉ [q0]) (hr : isR.map (fun i => ws[i]?) = wr.map some) (hcat : (st.map fun v => v.category).sum ≤ 8)
    (kk : ∀ bb : Nat → Nat, (∀ x ∈ (wf bb).map Prod.fst, x = b ∨ s.heap.size ≤ x) → Z p l e R s m args below meth c D nL G A Q (wr ++ wf bb) lv (cells + mc) (slots + ms) (pc + 3) st) : Z p l e R s m args below meth c D nL G A Q ws lv cells slots pc (.ref b :: st) := by
  intro H locs ls hP hD hS hl T hT X
  have hts := K.2.2.2.2.1
  have hC : [q0].map (fun i => ws[i]?) = ([(b, e0)] : va_W).map some := by simp [he]
  have hrun := va_runI (As := []) (rest := st) (g := F0 m pc ls (.ref b :: st)) (cells := cells) (slots := slots) (locs := locs) (e := e) (R := R) (meth := meth) (below := below) (p := p) ⟨K.1, K.2.1, K.2.2.1, K.2.2.2.1, hts⟩ (hM H.size) (cwI 0 hts hG hw hrc hrs (hts _ hini) (hts _ hlk) (hts _ hins) hy1 hd hR) ⟨z_blind, fun U hU hW => z_preP K.2.2.2.2.2.2.2.2.1 K.2.2.2.2.2.2.2.2.2.1 hP hD hS [q0] rfl hC U hU hW⟩ rfl rfl hl.1 rfl (lv_room hcat) hdg hf
  obtain ⟨v', st₀, t, T', L, h0, X', hL, e1, e2, ⟨hv, ⟨bb, hPb, hDb⟩, hF⟩, go⟩ := hrun T hT X
  cases hv
  obtain ⟨f1, f2⟩ := hF
  rw [h0] at f1 f2 hDb
  have hAb : A b := K.2.2.2.2.2.2.2.2.2.2 b hb
  have hbG : G b := K.2.2.2.2.2.2.2.2.2.1 b hAb
  have hDb' : va_D (va_A [(b, e0)] H.size) (wf bb) := hDb.weaken (fun k q _ h => h.elim (fun ⟨j, e, hj⟩ => Or.inl ⟨0, e0, by
    have hz : j < 1 := (List.getElem?_eq_some_iff.mp hj).1
    rw [show j = 0 by omega] at hj
    cases hj; rfl⟩) Or.inr)
  obtain ⟨hP2, hD2⟩ := va_join (A0 := G) (wc := [(b, e0)]) (wr := wr) (w1 := wf bb) hP hD [q0] isR hC hr hnr hdis (H1 := t.heap) (fun q g1 g2 => f2 q g1 (fun h => g2 (by rw [List.mem_singleton.mp h]; exact Or.inl ⟨0, _, rfl⟩))) (fun q h => h.elim (fun ⟨j, e, hj⟩ => by
    have hz : j < 1 := (List.getElem?_eq_some_iff.mp hj).1
    rw [show j = 0 by omega] at hj
    cases hj; exact hbG) (fun h => K.2.2.2.2.2.2.2.2.1.2.2.1 q (Nat.le_trans hS.1 h))) hPb hDb'
  have hadr : ∀ x ∈ (wf bb).map Prod.fst, x = b ∨ s.heap.size ≤ x := by
    intro x hx
    obtain ⟨q, hq, rfl⟩ := List.mem_map.mp hx
    obtain ⟨k, hk⟩ := List.mem_iff_getElem?.mp hq
    rcases hDb.2 k q hk with ⟨j, e, hj⟩ | h
    · have hz : j < 1 := (List.getElem?_eq_some_iff.mp hj).1
      rw [show j = 0 by omega] at hj
      cases hj; exact Or.inl rfl
    · exact Or.inr (Nat.le_trans hS.1 h)
  obtain ⟨t2, a1, b1⟩ := kk bb hadr T'.heap (locs ++ L) ls (by rw [e1]; exact hP2) hD2 ⟨by rw [e1]; exact Nat.le_trans hS.1 f1, fun q g1 g2 => by
      rw [e1, f2 q (Nat.lt_of_lt_of_le g1 hS.1) (fun h => g2 (by rw [List.mem_singleton.mp h]; exact hAb))]
      exact hS.2.1 q g1 g2, fun q hq => by
      rcases List.mem_append.mp hq with h | h
      · exact hS.2.2 q h
      · rcases hL q h with h | h
        · rw [List.mem_singleton.mp h]; exact hAb
        · exact K.2.2.2.2.2.2.2.2.2.2 _ (Nat.le_trans hS.1 h)⟩ hl T' rfl X'
  exact ⟨t2, go t2 a1, b1⟩

end ZAUX5
