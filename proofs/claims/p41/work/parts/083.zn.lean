section ZN
variable {p : Program} {l : Launch} {e : Env} {R : Room} {s : State} {m : MethodId} {args : Array Value} {below : List Frame} {meth : Method} {c : Code} {D : va_G} {nL : Nat} {G A : Nat → Prop} {Q : State → Prop} {ws : va_W} {lv : List (Nat × Value)} {cells slots pc : Nat} {st : List Value} {cc : ByteArray} {ret : Option FieldType} {Ts : List Cond} {own : String} {tys : List (ClassId × FieldType)}
/-! contracts that leave open which cells come, and which state: b says it -/
theorem z_perm {ws' : va_W} (h : ws.Perm ws') (kk : Z p l e R s m args below meth c D nL G A Q ws' lv cells slots pc st) : Z p l e R s m args below meth c D nL G A Q ws lv cells slots pc st := fun H locs ls hP hD hS hl => kk H locs ls (w_perm h hP hD).1 (w_perm h hP hD).2 hS hl
theorem z_subl {ws' : va_W} (h : List.Sublist ws' ws) (kk : Z p l e R s m args below meth c D nL G A Q ws' lv cells slots pc st) : Z p l e R s m args below meth c D nL G A Q ws lv cells slots pc st := fun H locs ls hP hD hS hl => kk H locs ls (w_subl h hP hD).1 (w_subl h hP hD).2 hS hl
/-- these cells are among those, apart -/
def z_in (wp ws : va_W) : Prop := List.Sublist wp ws
theorem z_preI {av : List Value} {wp : va_W} {H : Heap} {locs : List Loc} (hE : z_E l G D tys s) (hAG : ∀ q, A q → G q) (hP : va_P D vwCl ws H) (hD : va_D G ws) (hS : va_S A s.heap H locs) (hin : z_in wp ws) (U : State) (hU : U.heap = H) (hW : s.WarmedH U.vm) : z_pre l G D tys av wp H.size av.toArray U := by
  refine ⟨by rw [hU], rfl, by rw [hU]; exact (w_subl hin hP hD).1, hE.step hW (by rw [hU]; exact hS.1) (fun q h1 h2 => by rw [hU]; exact hS.2.1 q h1 (fun h => h2 (hAG q h))), (w_subl hin hP hD).2⟩
theorem z_gA {A' : Nat → Prop} {wp : va_W} (h : ∀ q, G q → A' q) : ∀ q ∈ ([] : va_W).map Prod.fst, A' q := fun _ h => nomatch h
/-- a call of a method that reads alone, of a world's part -/
theorem z_cV {y : MethodName} {wy wy' : List Cond} {rm : Room} {b : Nat} {As : List Value} {wp : va_W} {v : Option Value} {index maxL : Nat} {by' : ByteArray} {ry : Option FieldType} {C : String} {rest st' : List Value} {fs : List Value} {T : u_T} {N : Nat}
    (K : z_K p l s m args meth c G A D tys cc nL ret Ts own) (hM : z_M l y wy rm G D tys (.ref b :: As) wp v [] 0 0) (hG : GoodIn Ts (wsV own index C y wy)) (hw : wy = Cond.code y by' maxL ry :: wy') (n ci : Nat)
    (hd : y.cls = C ∧ y.cls ≠ "java/lang/invoke/MethodHandle" ∧ y.cls ≠ "java/lang/invoke/VarHandle" ∧ (parseMethodDescriptor y.desc).map (fun d => d.parameters.length) = some n) (hc : vwCl[ci]? = some (C, T, N)) (hdg : decode cc pc = .ok (.invokevirtual index, 3))
    (hin : z_in wp ws) {q0 : Nat} (hrc : rm.cells = 0) (hrs : rm.slots = 0) (hR : rm.frames + 1 ≤ R.frames ∧ 8 + (maxL + 11) + rm.locals ≤ R.locals) (hf : cells ≤ R.cells ∧ slots ≤ R.slots)
    (he : ws[q0]? = some (b, .inr (ci, fs))) (hlen : As.length = n) (hstk : st = As.reverse ++ .ref b :: rest) (hcat : (rest.map fun v => v.category).sum ≤ 8) (hst : v.toList ++ rest = st')
    (kk : Z p l e R s m args below meth c D nL G A Q ws lv cells slots (pc + 3) st') : Z p l e R s m args below meth c D nL G A Q ws lv cells slots pc st :=
  z_call (ws' := ws) (wv := []) (mc := 0) (ms := 0) K (fun H locs ls hP hD hS hl => va_runV ⟨K.1, K.2.1, K.2.2.1, K.2.2.2.1, K.2.2.2.2.1⟩ (hM H.size) (cwV n K.2.2.2.2.1 hG hw hrc hrs hd hR) ⟨z_blind, va_recv K.2.2.2.2.2.1 hP hc he, fun U hU hW => z_preI K.2.2.2.2.2.2.2.2.1 K.2.2.2.2.2.2.2.2.2.1 hP hD hS hin U hU hW⟩ rfl hlen hl.1 hstk (lv_room hcat) hdg hf) [] rfl (fun _ h => nomatch h) rfl hst kk
def z_QN (D : va_G) {β : Type} (Pb : β → Prop) (vf : β → Option Value) (wf : β → va_W) (ch : List Nat) : Array Value → State → Outcome → State → Prop := fun _ st o t => ∃ b : β, Pb b ∧ o = .returned (vf b) ∧ va_P D vwCl (wf b) t.heap ∧ va_D (z_A ch st.heap.size) (wf b) ∧ z_fr ch st t
def z_MN (l : Launch) (y : MethodName) (wy : List Cond) (rm : Room) (G : Nat → Prop) (D : va_G) (tys : List (ClassId × FieldType)) (av : List Value) (wp : va_W) (X : State → Prop) {β : Type} (Pb : β → Prop) (vf : β → Option Value) (wf : β → va_W) (mc ms : Nat) : Prop :=
  ∀ sz : Nat, Met l y wy rm (fun a U => z_pre l G D tys av wp sz a U ∧ X U) (z_QN D Pb vf wf (wp.map Prod.fst)) mc ms (z_A (wp.map Prod.fst) sz)
theorem z_ofWN {β : Type} {Pb : β → Prop} {vf : β → Option Value} {wf : β → va_W} {X : State → Prop} {y : MethodName} {wy wy' : List Cond} {rm : Room} {av : List Value} {wp : va_W} {mc ms : Nat} (hy : plainName y.cls = true) (hw : wy = Cond.code y cc nL ret :: wy') (hav : (lg_sl av).length ≤ nL) {lv0 : List (Nat × Value)} (hlv : lv_args 0 av = lv0)
    (body : ∀ (p : Program) (e : Env) (s : State) (m : MethodId) (args : Array Value) (below : List Frame) (meth : Method) (c : Code), z_K p l s m args meth c (z_A (wp.map Prod.fst) s.heap.size) (z_A (wp.map Prod.fst) s.heap.size) D tys cc nL ret wy y.cls → meth.name = y.name → X s → (∀ q, z_A (wp.map Prod.fst) s.heap.size q → G q) → Z p l e rm s m args below meth c D nL (z_A (wp.map Prod.fst) s.heap.size) (z_A (wp.map Prod.fst) s.heap.size) (MQ below (z_QN D Pb vf wf (wp.map Prod.fst)) args s mc ms (z_A (wp.map Prod.fst) s.heap.size)) wp lv0 0 0 0 []) : z_MN l y wy rm G D tys av wp X Pb vf wf mc ms := by
  intro sz
  refine Met.ofW (cc := cc) (maxL := nL) (ret := ret) hy hw ?_
  intro p e s m args below meth c s₁ B hml hv
  obtain ⟨⟨hsz, rfl, hP, hE, hD⟩, hX⟩ := hv
  subst hsz
  have hAG : ∀ q, z_A (wp.map Prod.fst) s.heap.size q → G q := fun q h => h.elim (fun h => by
    obtain ⟨w, hw, e⟩ := List.mem_map.mp h
    rw [← e]; exact (w_D.mp hD).2 w hw) (fun h => hE.2.2.1 q h)
  have hE2 : z_E l (z_A (wp.map Prod.fst) s.heap.size) D tys s := ⟨hE.1, trivial, fun q h => Or.inr h, hE.2.2.2⟩
  have K : z_K p l s m av.toArray meth c (z_A (wp.map Prod.fst) s.heap.size) (z_A (wp.map Prod.fst) s.heap.size) D tys cc nL ret wy y.cls := ⟨B.exec, B.bytes, hml, findClass_of_methodNamed B.named, atoms_spec (ws := wy) B.pre, hE.1, B.returns, B.notSynchronized, hE2, fun q h => h, fun q h => Or.inr h⟩
  have hD2 : va_D (z_A (wp.map Prod.fst) s.heap.size) wp := w_D.mpr ⟨(w_D.mp hD).1, fun q hq => Or.inl (List.mem_map.mpr ⟨q, hq, rfl⟩)⟩
  rw [lg_entry_eq]
  exact body p e s m _ below meth c K (name_of_methodNamed B.named B.method).1 hX hAG s.heap [] _ hP hD2 va_S.rf (hlv ▸ lv_entry av hav)
theorem z_QNof {β : Type} {Pb : β → Prop} {vf : β → Option Value} {wf : β → va_W} {ch : List Nat} {H : Heap} {locs : List Loc} {t : State} (b : β) (hb : Pb b) (hwf : wf b = ws) (hP : va_P D vwCl ws H) (hD : va_D (z_A ch s.heap.size) ws) (hS : va_S (z_A ch s.heap.size) s.heap H locs) (ht : t.heap = H) : z_QN D Pb vf wf ch args s (.returned (vf b)) t :=
  ⟨b, hb, rfl, by rw [ht, hwf]; exact hP, by rw [hwf]; exact hD, ⟨by rw [ht]; exact hS.1, fun q h1 h2 => by rw [ht]; exact hS.2.1 q h1 (fun h => h.elim h2 (fun h => absurd h (Nat.not_le.mpr h1)))⟩⟩
section ENDN
variable {β : Type} {Pb : β → Prop} {vf : β → Option Value} {wf : β → va_W} {ch : List Nat} {mc ms : Nat}
theorem z_iretN (K : z_K p l s m args meth c (z_A ch s.heap.size) (z_A ch s.heap.size) D tys cc nL (some .int) Ts own) {x : Int32} (hdg : decode cc pc = .ok (.ireturn, 1)) (b : β) (hb : Pb b) (hv : vf b = some (.int x)) (hwf : wf b = ws) (hc : cells ≤ mc) (hs : slots ≤ ms) : Z p l e R s m args below meth c D nL (z_A ch s.heap.size) (z_A ch s.heap.size) (MQ below (z_QN D Pb vf wf ch) args s mc ms (z_A ch s.heap.size)) ws lv cells slots pc [.int x] :=
  fun H locs ls hP hD hS hl => W.widen hc hs (W.iret K.1 K.2.1 K.2.2.2.2.2.2.1 (fun t ht _ => hv ▸ z_QNof b hb hwf hP hD hS ht) hS.2.2 hdg K.2.2.2.2.2.2.2.1)
theorem z_zretN (K : z_K p l s m args meth c (z_A ch s.heap.size) (z_A ch s.heap.size) D tys cc nL (some .boolean) Ts own) {x : Int32} {y : Bool} (hdg : decode cc pc = .ok (.ireturn, 1)) (hx : x = z_b y) (b : β) (hb : Pb b) (hv : vf b = some (.int (z_b y))) (hwf : wf b = ws) (hc : cells ≤ mc) (hs : slots ≤ ms) : Z p l e R s m args below meth c D nL (z_A ch s.heap.size) (z_A ch s.heap.size) (MQ below (z_QN D Pb vf wf ch) args s mc ms (z_A ch s.heap.size)) ws lv cells slots pc [.int x] := by
  subst hx
  exact fun H locs ls hP hD hS hl => W.widen hc hs (W.zret K.1 K.2.1 K.2.2.2.2.2.2.1 (by cases y <;> rfl) (fun t ht _ => hv ▸ z_QNof b hb hwf hP hD hS ht) hS.2.2 hdg K.2.2.2.2.2.2.2.1)
theorem z_vretN (K : z_K p l s m args meth c (z_A ch s.heap.size) (z_A ch s.heap.size) D tys cc nL none Ts own) (hdg : decode cc pc = .ok (.return_, 1)) (b : β) (hb : Pb b) (hv : vf b = none) (hwf : wf b = ws) (hc : cells ≤ mc) (hs : slots ≤ ms) : Z p l e R s m args below meth c D nL (z_A ch s.heap.size) (z_A ch s.heap.size) (MQ below (z_QN D Pb vf wf ch) args s mc ms (z_A ch s.heap.size)) ws lv cells slots pc [] :=
  fun H locs ls hP hD hS hl => W.widen hc hs (W.vret K.1 K.2.1 K.2.2.2.2.2.2.1 (fun t ht _ => hv ▸ z_QNof b hb hwf hP hD hS ht) hS.2.2 hdg K.2.2.2.2.2.2.2.1)
theorem z_aretN {C : String} (K : z_K p l s m args meth c (z_A ch s.heap.size) (z_A ch s.heap.size) D tys cc nL (some (.object C)) Ts own) {x : Nat} (hdg : decode cc pc = .ok (.areturn, 1)) (b : β) (hb : Pb b) (hv : vf b = some (.ref x)) (hwf : wf b = ws) (hc : cells ≤ mc) (hs : slots ≤ ms) : Z p l e R s m args below meth c D nL (z_A ch s.heap.size) (z_A ch s.heap.size) (MQ below (z_QN D Pb vf wf ch) args s mc ms (z_A ch s.heap.size)) ws lv cells slots pc [.ref x] :=
  fun H locs ls hP hD hS hl => W.widen hc hs (W.aret K.1 K.2.1 K.2.2.2.2.2.2.1 (Or.inl ⟨C, rfl⟩) (Or.inr ⟨x, rfl⟩) (fun t ht _ => hv ▸ z_QNof b hb hwf hP hD hS ht) hS.2.2 hdg K.2.2.2.2.2.2.2.1)
end ENDN
/-- what comes back beside what was not handed over -/
theorem z_joinN {X Y Y' : va_W} {H H1 : Heap} (hP : va_P D vwCl (X ++ Y) H) (hD : va_D A (X ++ Y)) (hun : ∀ q, q < H.size → q ∉ Y.map Prod.fst → H1[q]? = H[q]?) (hA : ∀ q, H.size ≤ q → A q) (hPb : va_P D vwCl Y' H1) (hDb : va_D (z_A (Y.map Prod.fst) H.size) Y') : va_P D vwCl (X ++ Y') H1 ∧ va_D A (X ++ Y') := by
  have hp := List.pairwise_append.mp (w_D.mp hD).1
  have hA2 := (w_D.mp hD).2
  have hX : ∀ q ∈ X, q.1 < H.size ∧ q.1 ∉ Y.map Prod.fst := fun q hq => by
    obtain ⟨k, hk⟩ := List.mem_iff_getElem?.mp (List.mem_append_left Y hq)
    refine ⟨(hP k q hk).lt, fun h => ?_⟩
    obtain ⟨y, hy, e⟩ := List.mem_map.mp h
    exact hp.2.2 q hq y hy e.symm
  refine ⟨w_P.mpr (fun q hq => ?_), w_D.mpr ⟨List.pairwise_append.mpr ⟨hp.1, (w_D.mp hDb).1, fun a ha b hb e => ?_⟩, fun q hq => ?_⟩⟩
  · rcases List.mem_append.mp hq with h | h
    · exact (w_P.mp hP q (List.mem_append_left Y h)).kept (hun _ (hX q h).1 (hX q h).2)
    · exact w_P.mp hPb q h
  · rcases (w_D.mp hDb).2 b hb with h | h
    · exact (hX a ha).2 (e ▸ h)
    · have := (hX a ha).1
      omega
  · rcases List.mem_append.mp hq with h | h
    · exact hA2 q (List.mem_append_left Y h)
    · rcases (w_D.mp hDb).2 q h with g | g
      · obtain ⟨y, hy, e⟩ := List.mem_map.mp g
        rw [← e]; exact hA2 y (List.mem_append_right X hy)
      · exact hA _ g
/-- a call of a method whose contract leaves open which; in walks whose cells may all be written (G is A) -/
theorem z_callN {X Y : va_W} {rest : List Value} {β : Type} {Pb : β → Prop} {vf : β → Option Value} {wf : β → va_W} {mc ms : Nat} {a : Array Value} (K : z_K p l s m args meth c A A D tys cc nL ret Ts own) (hXY : ws = X ++ Y)
    (hr : ∀ (H : Heap) (locs : List Loc) (ls : Array Slot), va_P D vwCl ws H → va_D A ws → va_S A s.heap H locs → lv_has ls nL lv → va_Run p l e R s m args below meth c H locs cells slots mc ms (F0 m pc ls st) rest (z_QN D Pb vf wf (Y.map Prod.fst) a) (z_A (Y.map Prod.fst) H.size))
    (kk : ∀ b : β, Pb b → Z p l e R s m args below meth c D nL A A Q (X ++ wf b) lv (cells + mc) (slots + ms) (pc + 3) ((vf b).toList ++ rest)) : Z p l e R s m args below meth c D nL A A Q ws lv cells slots pc st := by
  intro H locs ls hP hD hS hl T hT Xs
  obtain ⟨v', st₀, t, T', L, h0, X', hL, e1, e2, ⟨b, hb, hv, hPv, hDv, hF⟩, go⟩ := hr H locs ls hP hD hS hl T hT Xs
  cases hv
  obtain ⟨f1, f2⟩ := hF
  rw [h0] at f1 f2 hDv
  subst hXY
  have hAn := K.2.2.2.2.2.2.2.2.2.2
  obtain ⟨g1, g2⟩ := z_joinN (H1 := T'.heap) hP hD (fun q h1 h2 => by rw [e1]; exact f2 q h1 h2) (fun q h => hAn q (Nat.le_trans hS.1 h)) (by rw [e1]; exact hPv) hDv
  have hYA : ∀ q, z_A (Y.map Prod.fst) H.size q → A q := fun q h => h.elim (fun h => by
    obtain ⟨y, hy, e⟩ := List.mem_map.mp h
    rw [← e]; exact (w_D.mp hD).2 y (List.mem_append_right X hy)) (fun h => hAn q (Nat.le_trans hS.1 h))
  have g3 : va_S A s.heap T'.heap (locs ++ L) := by
    refine ⟨by rw [e1]; exact Nat.le_trans hS.1 f1, fun q h1 h2 => ?_, fun q hq => ?_⟩
    · rw [e1, f2 q (Nat.lt_of_lt_of_le h1 hS.1) (fun h => h2 (hYA q (Or.inl h)))]
      exact hS.2.1 q h1 h2
    · rcases List.mem_append.mp hq with h | h
      · exact hS.2.2 q h
      · exact hYA _ (hL q h)
  obtain ⟨t2, a1, b1⟩ := kk b hb T'.heap (locs ++ L) ls g1 g2 g3 hl T' rfl X'
  exact ⟨t2, go t2 a1, b1⟩
theorem z_blindN {X : State → Prop} (hXb : ∀ (U : State) (g : JFrame) (mk : MethodId) (a : Array Value), X U → X (U.calling g mk a)) {av : List Value} {wp : va_W} {sz : Nat} : FrameBlind (fun a U => z_pre l G D tys av wp sz a U ∧ X U) := fun _ U g mk q => ⟨⟨q.1.1, q.1.2.1, q.1.2.2.1, q.1.2.2.2.1.calling g mk _, q.1.2.2.2.2⟩, hXb U g mk _ q.2⟩
theorem z_callVN {y : MethodName} {wy wy' : List Cond} {rm : Room} {b : Nat} {As : List Value} {X0 wp : va_W} {X : State → Prop} {β : Type} {Pb : β → Prop} {vf : β → Option Value} {wf : β → va_W} {mc ms index maxL : Nat} {by' : ByteArray} {ry : Option FieldType} {C : String} {rest : List Value} {fs : List Value} {T : u_T} {N : Nat}
    (K : z_K p l s m args meth c A A D tys cc nL ret Ts own) (hM : z_MN l y wy rm A D tys (.ref b :: As) wp X Pb vf wf mc ms) (hG : GoodIn Ts (wsV own index C y wy)) (hw : wy = Cond.code y by' maxL ry :: wy') (n ci : Nat)
    (hd : y.cls = C ∧ y.cls ≠ "java/lang/invoke/MethodHandle" ∧ y.cls ≠ "java/lang/invoke/VarHandle" ∧ (parseMethodDescriptor y.desc).map (fun d => d.parameters.length) = some n) (hc : vwCl[ci]? = some (C, T, N)) (hdg : decode cc pc = .ok (.invokevirtual index, 3))
    (hXY : ws = X0 ++ wp) (hXb : ∀ (U : State) (g : JFrame) (mk : MethodId) (a : Array Value), X U → X (U.calling g mk a)) (hX : ∀ (H : Heap) (locs : List Loc), va_S A s.heap H locs → ∀ U : State, U.heap = H → s.WarmedH U.vm → X U) {q0 : Nat} (hrc : rm.cells = mc) (hrs : rm.slots = ms) (hR : rm.frames + 1 ≤ R.frames ∧ 8 + (maxL + 11) + rm.locals ≤ R.locals) (hf : cells + mc ≤ R.cells ∧ slots + ms ≤ R.slots)
    (he : ws[q0]? = some (b, .inr (ci, fs))) (hlen : As.length = n) (hstk : st = As.reverse ++ .ref b :: rest) (hcat : (rest.map fun v => v.category).sum ≤ 8)
    (kk : ∀ b : β, Pb b → Z p l e R s m args below meth c D nL A A Q (X0 ++ wf b) lv (cells + mc) (slots + ms) (pc + 3) ((vf b).toList ++ rest)) : Z p l e R s m args below meth c D nL A A Q ws lv cells slots pc st :=
  z_callN K hXY (fun H locs ls hP hD hS hl => va_runV ⟨K.1, K.2.1, K.2.2.1, K.2.2.2.1, K.2.2.2.2.1⟩ (hM H.size) (cwV n K.2.2.2.2.1 hG hw hrc hrs hd hR) ⟨z_blindN hXb, va_recv K.2.2.2.2.2.1 hP hc he, fun U hU hW => ⟨z_preI K.2.2.2.2.2.2.2.2.1 K.2.2.2.2.2.2.2.2.2.1 hP hD hS (by rw [hXY]; exact List.sublist_append_right _ _) U hU hW, hX H locs hS U hU hW⟩⟩ rfl hlen hl.1 hstk (lv_room hcat) hdg hf) kk
theorem z_callSN' {y : MethodName} {wy wy' : List Cond} {rm : Room} {As : List Value} {X0 wp : va_W} {X : State → Prop} {β : Type} {Pb : β → Prop} {vf : β → Option Value} {wf : β → va_W} {mc ms index maxL : Nat} {by' : ByteArray} {ry : Option FieldType} {rest : List Value}
    (K : z_K p l s m args meth c A A D tys cc nL ret Ts own) (hM : z_MN l y wy rm A D tys As wp X Pb vf wf mc ms) (hG : GoodIn Ts (va_wsS own index y wy)) (hw : wy = Cond.code y by' maxL ry :: wy') (n : Nat)
    (hd : y.cls ≠ "java/lang/invoke/MethodHandle" ∧ y.cls ≠ "java/lang/invoke/VarHandle" ∧ (parseMethodDescriptor y.desc).map (fun d => d.parameters.length) = some n) (hdg : decode cc pc = .ok (.invokestatic index, 3))
    (hXY : ws = X0 ++ wp) (hXb : ∀ (U : State) (g : JFrame) (mk : MethodId) (a : Array Value), X U → X (U.calling g mk a)) (hX : ∀ (H : Heap) (locs : List Loc), va_S A s.heap H locs → ∀ U : State, U.heap = H → s.WarmedH U.vm → X U) (hrc : rm.cells = mc) (hrs : rm.slots = ms) (hR : rm.frames + 1 ≤ R.frames ∧ 8 + (maxL + 11) + rm.locals ≤ R.locals) (hf : cells + mc ≤ R.cells ∧ slots + ms ≤ R.slots)
    (hlen : As.length = n) (hstk : st = As.reverse ++ rest) (hcat : (rest.map fun v => v.category).sum ≤ 8)
    (kk : ∀ b : β, Pb b → Z p l e R s m args below meth c D nL A A Q (X0 ++ wf b) lv (cells + mc) (slots + ms) (pc + 3) ((vf b).toList ++ rest)) : Z p l e R s m args below meth c D nL A A Q ws lv cells slots pc st :=
  z_callN K hXY (fun H locs ls hP hD hS hl => va_runS ⟨K.1, K.2.1, K.2.2.1, K.2.2.2.1, K.2.2.2.2.1⟩ (hM H.size) (va_cwS n K.2.2.2.2.1 hG hw hrc hrs hd hR) ⟨z_blindN hXb, fun U hU hW => ⟨z_preI K.2.2.2.2.2.2.2.2.1 K.2.2.2.2.2.2.2.2.2.1 hP hD hS (by rw [hXY]; exact List.sublist_append_right _ _) U hU hW, hX H locs hS U hU hW⟩⟩ rfl hlen hl.1 hstk (lv_room hcat) hdg hf) kk
/-- writes, where all cells of the world may be written -/
theorem z_zastG (K : z_K p l s m args meth c A A D tys cc nL ret Ts own) (t0 k : Nat) {q0 a : Nat} {cA : ClassId} {n : Nat} {f : Nat → Int32} {b : Bool} {x : Int32} (hx : x = z_b b) (ha : ws[q0]? = some (a, .inl (cA, n, .inl f))) (ht : tys[t0]? = some (cA, .boolean)) (hk : k < n) (hn : n < 2 ^ 31) (hdg : decode cc pc = .ok (.bastore, 1)) {ws' : va_W} (hws : ws.set q0 (a, .inl (cA, n, .inl (upd f k (z_b b)))) = ws') (kk : Z p l e R s m args below meth c D nL A A Q ws' lv cells slots (pc + 1) st) : Z p l e R s m args below meth c D nL A A Q ws lv cells slots pc (.int x :: .int (nI k) :: .ref a :: st) := fun H locs ls hP hD hS hl => z_zast K q0 t0 k hx ha ht hk hn hdg (hD.2 q0 _ ha) hws kk H locs ls hP hD hS hl
theorem z_iastG (K : z_K p l s m args meth c A A D tys cc nL ret Ts own) (t0 k : Nat) {q0 a : Nat} {cA : ClassId} {n : Nat} {f : Nat → Int32} {x : Int32} (ha : ws[q0]? = some (a, .inl (cA, n, .inl f))) (ht : tys[t0]? = some (cA, .int)) (hk : k < n) (hn : n < 2 ^ 31) (hdg : decode cc pc = .ok (.iastore, 1)) {ws' : va_W} (hws : ws.set q0 (a, .inl (cA, n, .inl (upd f k x))) = ws') (kk : Z p l e R s m args below meth c D nL A A Q ws' lv cells slots (pc + 1) st) : Z p l e R s m args below meth c D nL A A Q ws lv cells slots pc (.int x :: .int (nI k) :: .ref a :: st) := fun H locs ls hP hD hS hl => z_iastN K q0 t0 k hk hn ha ht hdg (hD.2 q0 _ ha) hws kk H locs ls hP hD hS hl
theorem z_aastG (K : z_K p l s m args meth c A A D tys cc nL ret Ts own) {t : FieldType} (hAO : va_AOA t s) (t0 k : Nat) {q0 q1 a v : Nat} {cA cB : ClassId} {n : Nat} {f : Nat → Option Nat} {x : vp_A} (ha : ws[q0]? = some (a, .inl (cA, n, .inr (.inr (.inr (.inr f)))))) (ht : tys[t0]? = some (cA, .array t)) (hv : ws[q1]? = some (v, .inl (cB, x))) (hcB : s.vm.findClass (FieldType.array t).toString = some cB) (hk : k < n) (hn : n < 2 ^ 31) (hdg : decode cc pc = .ok (.aastore, 1)) {ws' : va_W} (hws : ws.set q0 (a, .inl (cA, n, .inr (.inr (.inr (.inr (va_up f k (some v))))))) = ws') (kk : Z p l e R s m args below meth c D nL A A Q ws' lv cells slots (pc + 1) st) : Z p l e R s m args below meth c D nL A A Q ws lv cells slots pc (.ref v :: .int (nI k) :: .ref a :: st) := fun H locs ls hP hD hS hl => z_aast K hAO q0 q1 t0 k ha ht hv hcB hk hn hdg (hD.2 q0 _ ha) hws kk H locs ls hP hD hS hl
theorem z_putG (K : z_K p l s m args meth c A A D tys cc nL ret Ts own) {C ref : String} {T : u_T} {N ci index : Nat} (hin : ∀ w ∈ u_ws C T N, w ∈ Ts) (hc : vwCl[ci]? = some (C, T, N)) (ty0 : Nat → FieldType) (hty : ∀ k, k < N → parseFieldDescriptor (T k).2.2.1 = some (ty0 k)) (hnm : ∀ a, a < N → ∀ b, b < N → a ≠ b → (T a).2.1 ≠ (T b).2.1) {q0 a : Nat} {fs : List Value} (he : ws[q0]? = some (a, .inr (ci, fs))) (k : Nat) (hk : k < N) (hw : Cond.fieldLink own index ref (T k).2.1 (T k).2.2.1 ∈ Ts) (hsame : (T k).1 = ref) (hfin : (T k).2.2.2 = false) {v : Value} (hn : narrow (ty0 k) v = v) (hfit : fits (ty0 k) v = true) (hl0 : k < fs.length) {ws' : va_W} (hws : ws.set q0 (a, .inr (ci, fs.set k v)) = ws') (hdg : decode cc pc = .ok (.putfield index, 3)) (kk : Z p l e R s m args below meth c D nL A A Q ws' lv cells slots (pc + 3) st) : Z p l e R s m args below meth c D nL A A Q ws lv cells slots pc (v :: .ref a :: st) := fun H locs ls hP hD hS hl => z_put K hin hc ty0 hty hnm q0 he k hk hw hsame hfin hn hfit hl0 (hD.2 q0 _ he) hws hdg kk H locs ls hP hD hS hl
theorem z_putFG (K : z_K p l s m args meth c A A D tys cc nL ret Ts own) {C ref : String} {T : u_T} {N ci index : Nat} (hin : ∀ w ∈ u_ws C T N, w ∈ Ts) (hc : vwCl[ci]? = some (C, T, N)) (ty0 : Nat → FieldType) (hty : ∀ k, k < N → parseFieldDescriptor (T k).2.2.1 = some (ty0 k)) (hnm : ∀ a, a < N → ∀ b, b < N → a ≠ b → (T a).2.1 ≠ (T b).2.1) {q0 a : Nat} {fs : List Value} (he : ws[q0]? = some (a, .inr (ci, fs))) (k : Nat) (hk : k < N) (hw : Cond.fieldLink own index ref (T k).2.1 (T k).2.2.1 ∈ Ts) (hsame : (T k).1 = ref) (hfin : (T k).2.2.2 = true) (hin2 : meth.name = "<init>") (hdecl : (T k).1 = own) {v : Value} (hn : narrow (ty0 k) v = v) (hfit : fits (ty0 k) v = true) (hl0 : k < fs.length) {ws' : va_W} (hws : ws.set q0 (a, .inr (ci, fs.set k v)) = ws') (hdg : decode cc pc = .ok (.putfield index, 3)) (kk : Z p l e R s m args below meth c D nL A A Q ws' lv cells slots (pc + 3) st) : Z p l e R s m args below meth c D nL A A Q ws lv cells slots pc (v :: .ref a :: st) := fun H locs ls hP hD hS hl => z_putF K hin hc ty0 hty hnm q0 he k hk hw hsame hfin hin2 hdecl hn hfit hl0 (hD.2 q0 _ he) hws hdg kk H locs ls hP hD hS hl
/-- a private constructor of a nest mate -/
theorem z_callIN {y : MethodName} {wy wy' : List Cond} {rm : Room} {b : Nat} {X0 wp : va_W} {β : Type} {Pb : β → Prop} {wf : β → va_W} {mc ms index maxL : Nat} {by' : ByteArray} {host : String}
    (K : z_K p l s m args meth c A A D tys cc nL ret Ts own) (hM : z_MN l y wy rm A D tys [.ref b] wp (fun _ => True) Pb (fun _ => none) wf mc ms) (hG : GoodIn Ts wy) (hw : wy = Cond.code y by' maxL none :: wy') (hnest : (own, index, y, host) ∈ z_nests) (hini : Cond.initialized y.cls ∈ Ts) (hins : Cond.instanceMethod y ∈ Ts) (hy1 : y.name = "<init>")
    (hd : y.cls ≠ "java/lang/invoke/MethodHandle" ∧ y.cls ≠ "java/lang/invoke/VarHandle" ∧ (parseMethodDescriptor y.desc).map (fun d => d.parameters.length) = some 0) (hdg : decode cc pc = .ok (.invokespecial index, 3))
    (hXY : ws = X0 ++ wp) (hrc : rm.cells = mc) (hrs : rm.slots = ms) (hR : rm.frames + 1 ≤ R.frames ∧ 8 + (maxL + 11) + rm.locals ≤ R.locals) (hf : cells + mc ≤ R.cells ∧ slots + ms ≤ R.slots) (hcat : (st.map fun v => v.category).sum ≤ 8)
    (kk : ∀ b : β, Pb b → Z p l e R s m args below meth c D nL A A Q (X0 ++ wf b) lv (cells + mc) (slots + ms) (pc + 3) st) : Z p l e R s m args below meth c D nL A A Q ws lv cells slots pc (.ref b :: st) :=
  z_callN (rest := st) (vf := fun _ => none) K hXY (fun H locs ls hP hD hS hl => va_runIN (As := []) (rest := st) ⟨K.1, K.2.1, K.2.2.1, K.2.2.2.1, K.2.2.2.2.1⟩ (hM H.size) ⟨va_cnB 0 K.2.2.2.2.1 hG hw hrc hrs (K.2.2.2.2.2.2.2.2.1.2.2.2.1 _ hnest) (K.2.2.2.2.1 _ hini) hd hR, hy1, K.2.2.2.2.1 _ hins⟩ ⟨z_blindN (fun _ _ _ _ h => h), fun U hU hW => ⟨z_preI K.2.2.2.2.2.2.2.2.1 K.2.2.2.2.2.2.2.2.2.1 hP hD hS (by rw [hXY]; exact List.sublist_append_right _ _) U hU hW, trivial⟩⟩ rfl rfl hl.1 rfl (lv_room hcat) hdg hf) kk
/-- a call of a method that may write its own cells, where all cells of the world may be written -/
theorem z_callVG {y : MethodName} {wy wy' : List Cond} {rm : Room} {b : Nat} {As : List Value} {wp wv ws' : va_W} {v : Option Value} {mc ms index maxL : Nat} {by' : ByteArray} {ry : Option FieldType} {C : String} {rest st' : List Value} {fs : List Value} {T : u_T} {N : Nat}
    (K : z_K p l s m args meth c A A D tys cc nL ret Ts own) (hM : z_M l y wy rm A D tys (.ref b :: As) wp v wv mc ms) (hG : GoodIn Ts (wsV own index C y wy)) (hw : wy = Cond.code y by' maxL ry :: wy') (n ci : Nat)
    (hd : y.cls = C ∧ y.cls ≠ "java/lang/invoke/MethodHandle" ∧ y.cls ≠ "java/lang/invoke/VarHandle" ∧ (parseMethodDescriptor y.desc).map (fun d => d.parameters.length) = some n) (hc : vwCl[ci]? = some (C, T, N)) (hdg : decode cc pc = .ok (.invokevirtual index, 3))
    (is : List Nat) (q0 : Nat) (isW : List Nat) (hrc : rm.cells = mc) (hrs : rm.slots = ms) (hR : rm.frames + 1 ≤ R.frames ∧ 8 + (maxL + 11) + rm.locals ≤ R.locals) (hf : cells + mc ≤ R.cells ∧ slots + ms ≤ R.slots)
    (hn : va_nd is = true) (hC : is.map (fun i => ws[i]?) = wp.map some) (he : ws[q0]? = some (b, .inr (ci, fs))) (hlen : As.length = n) (hstk : st = As.reverse ++ .ref b :: rest) (hcat : (rest.map fun v => v.category).sum ≤ 8)
    (hW : isW.map (fun i => (ws[i]?).map Prod.fst) = wv.map (fun w => some w.1)) (hws : z_set ws isW wv = ws') (hst : v.toList ++ rest = st')
    (kk : Z p l e R s m args below meth c D nL A A Q ws' lv (cells + mc) (slots + ms) (pc + 3) st') : Z p l e R s m args below meth c D nL A A Q ws lv cells slots pc st := fun H locs ls hP hD hS hl =>
  z_call K (fun H locs ls hP hD hS hl => va_runV ⟨K.1, K.2.1, K.2.2.1, K.2.2.2.1, K.2.2.2.2.1⟩ (hM H.size) (cwV n K.2.2.2.2.1 hG hw hrc hrs hd hR) ⟨z_blind, va_recv K.2.2.2.2.2.1 hP hc he, fun U hU hW => z_preP K.2.2.2.2.2.2.2.2.1 K.2.2.2.2.2.2.2.2.2.1 hP hD hS is hn hC U hU hW⟩ rfl hlen hl.1 hstk (lv_room hcat) hdg hf) isW hW (fun q hq => by
    obtain ⟨w, hw, e⟩ := List.mem_map.mp hq
    obtain ⟨j, hj⟩ := List.mem_iff_getElem?.mp hw
    have h1 : (isW.map (fun i => (ws[i]?).map Prod.fst))[j]? = some (some w.1) := by rw [hW, List.getElem?_map, hj]; rfl
    rw [List.getElem?_map] at h1
    cases hi : isW[j]? with
    | none => rw [hi] at h1; cases h1
    | some i =>
      rw [hi] at h1
      have h2 : (ws[i]?).map Prod.fst = some w.1 := Option.some.inj h1
      cases hwi : ws[i]? with
      | none => rw [hwi] at h2; cases h2
      | some e' =>
        rw [hwi] at h2
        have h3 : e'.1 = w.1 := Option.some.inj h2
        rw [← e, ← h3]
        exact hD.2 i e' hwi) hws hst kk H locs ls hP hD hS hl

end ZN
