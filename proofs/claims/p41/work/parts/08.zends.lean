section ZENDS
variable {p : Program} {l : Launch} {e : Env} {R : Room} {s : State} {m : MethodId} {args : Array Value} {below : List Frame} {meth : Method} {c : Code} {D : va_G} {nL : Nat} {G A : Nat → Prop} {Q : State → Prop} {ws : va_W} {lv : List (Nat × Value)} {cells slots pc : Nat} {st : List Value} {cc : ByteArray} {ret : Option FieldType} {Ts : List Cond} {own : String} {tys : List (ClassId × FieldType)}
/-! a method from its entry to its ends -/
theorem z_AG {wp wv : va_W} {U : State} (hE : z_E l G D tys U) (hD : va_D G wp) (isG : List Nat) (hG : isG.map (fun i => (wp[i]?).map Prod.fst) = wv.map (fun w => some w.1)) : ∀ q, z_A (wv.map Prod.fst) U.heap.size q → G q := by
  intro q hq
  rcases hq with h | h
  · obtain ⟨w, hw, e⟩ := List.mem_map.mp h
    obtain ⟨j, hj⟩ := List.mem_iff_getElem?.mp hw
    have h1 : (isG.map (fun i => (wp[i]?).map Prod.fst))[j]? = some (some w.1) := by rw [hG, List.getElem?_map, hj]; rfl
    rw [List.getElem?_map] at h1
    cases hi : isG[j]? with
    | none => rw [hi] at h1; cases h1
    | some i =>
      rw [hi] at h1
      have h2 : (wp[i]?).map Prod.fst = some w.1 := Option.some.inj h1
      cases hwi : wp[i]? with
      | none => rw [hwi] at h2; cases h2
      | some e' =>
        rw [hwi] at h2
        have h3 : e'.1 = w.1 := Option.some.inj h2
        rw [← e, ← h3]
        exact hD.2 i e' hwi
  · exact hE.2.2.1 q h
theorem z_ofW {y : MethodName} {wy wy' : List Cond} {rm : Room} {av : List Value} {wp wv : va_W} {v : Option Value} {mc ms : Nat} (hy : plainName y.cls = true) (hw : wy = Cond.code y cc nL ret :: wy') (hav : (lg_sl av).length ≤ nL) (isG : List Nat) (hG : isG.map (fun i => (wp[i]?).map Prod.fst) = wv.map (fun w => some w.1)) {lv0 : List (Nat × Value)} (hlv : lv_args 0 av = lv0)
    (body : ∀ (p : Program) (e : Env) (s : State) (m : MethodId) (args : Array Value) (below : List Frame) (meth : Method) (c : Code), z_K p l s m args meth c G (z_A (wv.map Prod.fst) s.heap.size) D tys cc nL ret wy y.cls → Z p l e rm s m args below meth c D nL G (z_A (wv.map Prod.fst) s.heap.size) (MQ below (z_Q D v wv) args s mc ms (z_A (wv.map Prod.fst) s.heap.size)) wp lv0 0 0 0 []) : z_M l y wy rm G D tys av wp v wv mc ms := by
  intro sz
  refine Met.ofW (cc := cc) (maxL := nL) (ret := ret) hy hw ?_
  intro p e s m args below meth c s₁ B hml hv
  obtain ⟨hsz, rfl, hP, hE, hD⟩ := hv
  subst hsz
  have K : z_K p l s m av.toArray meth c G (z_A (wv.map Prod.fst) s.heap.size) D tys cc nL ret wy y.cls := ⟨B.exec, B.bytes, hml, findClass_of_methodNamed B.named, atoms_spec (ws := wy) B.pre, hE.1, B.returns, B.notSynchronized, hE, z_AG hE hD isG hG, fun q h => Or.inr h⟩
  rw [lg_entry_eq]
  exact body p e s m _ below meth c K s.heap [] _ hP hD va_S.rf (hlv ▸ lv_entry av hav)
theorem z_frOf {wv : va_W} {H : Heap} {locs : List Loc} {t : State} (hS : va_S (z_A (wv.map Prod.fst) s.heap.size) s.heap H locs) (ht : t.heap = H) : z_fr (wv.map Prod.fst) s t := ⟨by rw [ht]; exact hS.1, fun q h1 h2 => by rw [ht]; exact hS.2.1 q h1 (fun h => h.elim h2 (fun h => absurd h (Nat.not_le.mpr h1)))⟩
theorem z_subP {wv : va_W} {H : Heap} (hP : va_P D vwCl ws H) (isW : List Nat) (hW : isW.map (fun i => ws[i]?) = wv.map some) : va_P D vwCl wv H := by
  refine hP.sub isW ?_
  have : isW.filterMap (fun i => ws[i]?) = (isW.map (fun i => ws[i]?)).filterMap id := by rw [List.filterMap_map]; rfl
  rw [this, hW, List.filterMap_map]; exact List.filterMap_some
theorem z_Qof {wv : va_W} {v : Option Value} {H : Heap} {locs : List Loc} {t : State} (hP : va_P D vwCl ws H) (hS : va_S (z_A (wv.map Prod.fst) s.heap.size) s.heap H locs) (isW : List Nat) (hW : isW.map (fun i => ws[i]?) = wv.map some) (ht : t.heap = H) : z_Q D v wv args s (.returned v) t := ⟨rfl, by rw [ht]; exact z_subP hP isW hW, z_frOf hS ht⟩
theorem z_iret {wv : va_W} {mc ms : Nat} (K : z_K p l s m args meth c G (z_A (wv.map Prod.fst) s.heap.size) D tys cc nL (some .int) Ts own) {x y : Int32} (hdg : decode cc pc = .ok (.ireturn, 1)) (hx : x = y) (isW : List Nat) (hW : isW.map (fun i => ws[i]?) = wv.map some) (hc : cells ≤ mc) (hs : slots ≤ ms) : Z p l e R s m args below meth c D nL G (z_A (wv.map Prod.fst) s.heap.size) (MQ below (z_Q D (some (.int y)) wv) args s mc ms (z_A (wv.map Prod.fst) s.heap.size)) ws lv cells slots pc [.int x] := by
  subst hx
  exact fun H locs ls hP hD hS hl => W.widen hc hs (W.iret K.1 K.2.1 K.2.2.2.2.2.2.1 (fun t ht _ => z_Qof hP hS isW hW ht) hS.2.2 hdg K.2.2.2.2.2.2.2.1)
theorem z_dret {wv : va_W} {mc ms : Nat} (K : z_K p l s m args meth c G (z_A (wv.map Prod.fst) s.heap.size) D tys cc nL (some .double) Ts own) {x y : UInt64} (hdg : decode cc pc = .ok (.dreturn, 1)) (hx : x = y) (isW : List Nat) (hW : isW.map (fun i => ws[i]?) = wv.map some) (hc : cells ≤ mc) (hs : slots ≤ ms) : Z p l e R s m args below meth c D nL G (z_A (wv.map Prod.fst) s.heap.size) (MQ below (z_Q D (some (.double y)) wv) args s mc ms (z_A (wv.map Prod.fst) s.heap.size)) ws lv cells slots pc [.double x] := by
  subst hx
  exact fun H locs ls hP hD hS hl => W.widen hc hs (W.dret K.1 K.2.1 K.2.2.2.2.2.2.1 (fun t ht _ => z_Qof hP hS isW hW ht) hS.2.2 hdg K.2.2.2.2.2.2.2.1)
theorem z_zret {wv : va_W} {mc ms : Nat} (K : z_K p l s m args meth c G (z_A (wv.map Prod.fst) s.heap.size) D tys cc nL (some .boolean) Ts own) {x : Int32} {y : Bool} (hdg : decode cc pc = .ok (.ireturn, 1)) (hx : x = z_b y) (isW : List Nat) (hW : isW.map (fun i => ws[i]?) = wv.map some) (hc : cells ≤ mc) (hs : slots ≤ ms) : Z p l e R s m args below meth c D nL G (z_A (wv.map Prod.fst) s.heap.size) (MQ below (z_Q D (some (.int (z_b y))) wv) args s mc ms (z_A (wv.map Prod.fst) s.heap.size)) ws lv cells slots pc [.int x] := by
  subst hx
  exact fun H locs ls hP hD hS hl => W.widen hc hs (W.zret K.1 K.2.1 K.2.2.2.2.2.2.1 (by cases y <;> rfl) (fun t ht _ => z_Qof hP hS isW hW ht) hS.2.2 hdg K.2.2.2.2.2.2.2.1)
theorem z_vret {wv : va_W} {mc ms : Nat} (K : z_K p l s m args meth c G (z_A (wv.map Prod.fst) s.heap.size) D tys cc nL (none) Ts own) (hdg : decode cc pc = .ok (.return_, 1)) (isW : List Nat) (hW : isW.map (fun i => ws[i]?) = wv.map some) (hc : cells ≤ mc) (hs : slots ≤ ms) : Z p l e R s m args below meth c D nL G (z_A (wv.map Prod.fst) s.heap.size) (MQ below (z_Q D none wv) args s mc ms (z_A (wv.map Prod.fst) s.heap.size)) ws lv cells slots pc [] :=
  fun H locs ls hP hD hS hl => W.widen hc hs (W.vret K.1 K.2.1 K.2.2.2.2.2.2.1 (fun t ht _ => z_Qof hP hS isW hW ht) hS.2.2 hdg K.2.2.2.2.2.2.2.1)
theorem z_inc1 (k : Nat) : nI k + Int32.ofInt 1 = nI (k + 1) := nI_1 k
theorem z_memA {ch : List Nat} {sz a : Nat} (i : Nat) (h : ch[i]? = some a) : z_A ch sz a := Or.inl (List.mem_of_getElem? h)
theorem z_ialdN (K : z_K p l s m args meth c G A D tys cc nL ret Ts own) (q0 t0 k : Nat) {a : Nat} {cA : ClassId} {n : Nat} {f : Nat → Int32} (hk : k < n) (hn : n < 2 ^ 31) (ha : ws[q0]? = some (a, .inl (cA, n, .inl f))) (ht : tys[t0]? = some (cA, .int)) (hdg : decode cc pc = .ok (.iaload, 1)) (kk : Z p l e R s m args below meth c D nL G A Q ws lv cells slots (pc + 1) (.int (f k) :: st)) : Z p l e R s m args below meth c D nL G A Q ws lv cells slots pc (.int (nI k) :: .ref a :: st) :=
  z_iald K q0 t0 ha ht (vp_in_nI hk hn) hdg (by rw [nI_clamp (Nat.lt_trans hk hn)]) kk
theorem z_iastN (K : z_K p l s m args meth c G A D tys cc nL ret Ts own) (q0 t0 k : Nat) {a : Nat} {cA : ClassId} {n : Nat} {f : Nat → Int32} {x : Int32} (hk : k < n) (hn : n < 2 ^ 31) (ha : ws[q0]? = some (a, .inl (cA, n, .inl f))) (ht : tys[t0]? = some (cA, .int)) (hdg : decode cc pc = .ok (.iastore, 1)) (hA : A a) {ws' : va_W} (hws : ws.set q0 (a, .inl (cA, n, .inl (upd f k x))) = ws') (kk : Z p l e R s m args below meth c D nL G A Q ws' lv cells slots (pc + 1) st) : Z p l e R s m args below meth c D nL G A Q ws lv cells slots pc (.int x :: .int (nI k) :: .ref a :: st) :=
  z_iast K q0 t0 ha ht (vp_in_nI hk hn) hdg hA (nI_clamp (Nat.lt_trans hk hn)) hws kk
theorem z_ws {ws' : va_W} (h : ws = ws') (kk : Z p l e R s m args below meth c D nL G A Q ws' lv cells slots pc st) : Z p l e R s m args below meth c D nL G A Q ws lv cells slots pc st := by rw [h]; exact kk
theorem z_st {st' : List Value} (h : st = st') (kk : Z p l e R s m args below meth c D nL G A Q ws lv cells slots pc st') : Z p l e R s m args below meth c D nL G A Q ws lv cells slots pc st := by rw [h]; exact kk
theorem z_loop {wsf : Nat → va_W} {lvf : Nat → List (Nat × Value)} (n : Nat) (hw : wsf 0 = ws) (hl : lvf 0 = lv) (h0 : Z p l e R s m args below meth c D nL G A Q (wsf n) (lvf n) cells slots pc st) (hs : ∀ k, k < n → Z p l e R s m args below meth c D nL G A Q (wsf (k + 1)) (lvf (k + 1)) cells slots pc st → Z p l e R s m args below meth c D nL G A Q (wsf k) (lvf k) cells slots pc st) : Z p l e R s m args below meth c D nL G A Q ws lv cells slots pc st := by
  subst hw hl
  exact z_down (P := fun k => Z p l e R s m args below meth c D nL G A Q (wsf k) (lvf k) cells slots pc st) n h0 hs 0 (Nat.zero_le _)
theorem z_upI {wsf : Nat → va_W} {lvf : Nat → List (Nat × Value)} (inv : Nat → Prop) (n : Nat) (hw : wsf n = ws) (hl : lvf n = lv) (hi : inv n) (h0 : inv 0 → Z p l e R s m args below meth c D nL G A Q (wsf 0) (lvf 0) cells slots pc st) (hs : ∀ k, k < n → (inv k → Z p l e R s m args below meth c D nL G A Q (wsf k) (lvf k) cells slots pc st) → inv (k + 1) → Z p l e R s m args below meth c D nL G A Q (wsf (k + 1)) (lvf (k + 1)) cells slots pc st) : Z p l e R s m args below meth c D nL G A Q ws lv cells slots pc st := by
  subst hw hl
  have key : ∀ k, k ≤ n → inv k → Z p l e R s m args below meth c D nL G A Q (wsf k) (lvf k) cells slots pc st := by
    intro k
    induction k with
    | zero => exact fun _ h => h0 h
    | succ k ih => exact fun hk h => hs k (by omega) (fun h' => ih (by omega) h') h
  exact key n (Nat.le_refl _) hi
theorem z_loopI {wsf : Nat → va_W} {lvf : Nat → List (Nat × Value)} (inv : Nat → Prop) (n : Nat) (hw : wsf 0 = ws) (hl : lvf 0 = lv) (hi : inv 0) (h0 : inv n → Z p l e R s m args below meth c D nL G A Q (wsf n) (lvf n) cells slots pc st) (hs : ∀ k, k < n → (inv (k + 1) → Z p l e R s m args below meth c D nL G A Q (wsf (k + 1)) (lvf (k + 1)) cells slots pc st) → inv k → Z p l e R s m args below meth c D nL G A Q (wsf k) (lvf k) cells slots pc st) : Z p l e R s m args below meth c D nL G A Q ws lv cells slots pc st := by
  subst hw hl
  exact z_down (P := fun k => inv k → Z p l e R s m args below meth c D nL G A Q (wsf k) (lvf k) cells slots pc st) n h0 hs 0 (Nat.zero_le _) hi

/-- a loop without a counter: a measure falls -/
theorem z_rec {σ : Type} {wsf : σ → va_W} {lvf : σ → List (Nat × Value)} (μ : σ → Nat) (inv : σ → Prop) (x0 : σ) (hw : wsf x0 = ws) (hl : lvf x0 = lv) (hi : inv x0) (hs : ∀ x, (∀ y, μ y < μ x → inv y → Z p l e R s m args below meth c D nL G A Q (wsf y) (lvf y) cells slots pc st) → inv x → Z p l e R s m args below meth c D nL G A Q (wsf x) (lvf x) cells slots pc st) : Z p l e R s m args below meth c D nL G A Q ws lv cells slots pc st := by
  subst hw hl
  have key : ∀ d x, μ x < d → inv x → Z p l e R s m args below meth c D nL G A Q (wsf x) (lvf x) cells slots pc st := by
    intro d
    induction d with
    | zero => exact fun x h => absurd h (Nat.not_lt_zero _)
    | succ d ih => exact fun x h hi => hs x (fun y hy hiy => ih y (by omega) hiy) hi
  exact key _ x0 (Nat.lt_succ_self _) hi
theorem z_cmpGN (K : z_K p l s m args meth c G A D tys cc nL ret Ts own) {off : Int} {x y : Int32} (tgt a b : Nat) (hdg : decode cc pc = .ok (.if_icmp .gt off, 3)) (ht : (pc : Int) + off = (tgt : Int)) (hx : x = nI a) (hy : y = nI b) (ha : a < 2 ^ 31) (hb : b < 2 ^ 31) (kt : b < a → Z p l e R s m args below meth c D nL G A Q ws lv cells slots tgt st) (kf : a ≤ b → Z p l e R s m args below meth c D nL G A Q ws lv cells slots (pc + 3) st) : Z p l e R s m args below meth c D nL G A Q ws lv cells slots pc (.int y :: .int x :: st) := by
  subst hx hy
  exact z_icmp_gt K tgt hdg ht (fun h => kt ((nI_ltI hb ha).mp h)) (fun h => kf (Nat.le_of_not_lt (fun q => h ((nI_ltI hb ha).mpr q))))
theorem z_lvE {lv' : List (Nat × Value)} (h : lv = lv') (kk : Z p l e R s m args below meth c D nL G A Q ws lv' cells slots pc st) : Z p l e R s m args below meth c D nL G A Q ws lv cells slots pc st := by rw [h]; exact kk
theorem z_dconst0 (K : z_K p l s m args meth c G A D tys cc nL ret Ts own) (hdg : decode cc pc = .ok (.dconst 0, 1)) (kk : Z p l e R s m args below meth c D nL G A Q ws lv cells slots (pc + 1) (.double 0 :: st)) : Z p l e R s m args below meth c D nL G A Q ws lv cells slots pc st := fun H locs ls hP hD hS hl => lv_dconst0 K.1 K.2.1 hdg (kk H locs ls hP hD hS hl)

/-! new cells: constructors, arrays -/
theorem z_putF (K : z_K p l s m args meth c G A D tys cc nL ret Ts own) {C ref : String} {T : u_T} {N ci index : Nat} (hin : ∀ w ∈ u_ws C T N, w ∈ Ts) (hc : vwCl[ci]? = some (C, T, N)) (ty0 : Nat → FieldType) (hty : ∀ k, k < N → parseFieldDescriptor (T k).2.2.1 = some (ty0 k)) (hnm : ∀ a, a < N → ∀ b, b < N → a ≠ b → (T a).2.1 ≠ (T b).2.1) (q0 : Nat) {a : Nat} {fs : List Value} (he : ws[q0]? = some (a, .inr (ci, fs))) (k : Nat) (hk : k < N) (hw : Cond.fieldLink own index ref (T k).2.1 (T k).2.2.1 ∈ Ts) (hsame : (T k).1 = ref) (hfin : (T k).2.2.2 = true) (hin2 : meth.name = "<init>") (hdecl : (T k).1 = own) {v : Value} (hn : narrow (ty0 k) v = v) (hfit : fits (ty0 k) v = true) (hl0 : k < fs.length) (hA : A a) {ws' : va_W} (hws : ws.set q0 (a, .inr (ci, fs.set k v)) = ws') (hdg : decode cc pc = .ok (.putfield index, 3)) (kk : Z p l e R s m args below meth c D nL G A Q ws' lv cells slots (pc + 3) st) : Z p l e R s m args below meth c D nL G A Q ws lv cells slots pc (v :: .ref a :: st) := by
  intro H locs ls hP hD hS hl
  subst hws
  have hts := K.2.2.2.2.1
  have hap := va_apart (own := own) hts hin ty0 hty hnm K.2.2.2.2.2.1 hc
  obtain ⟨r, h1, cell, q1, q2, q3, q4⟩ := hP q0 _ he
  have hr : r = (C, T, N) := Option.some.inj (h1.symm.trans hc)
  subst hr
  obtain ⟨hSl, hfc, kC, hkC, hkind⟩ := K.2.2.2.2.2.1.1 ci _ hc
  obtain ⟨cf, kf, fi, f, hi, hsl⟩ := hSl k hk
  have hlay := hts _ (hin _ (u_in_lay hk))
  unfold u_lay at hlay
  rw [if_pos hfin] at hlay
  have hst := (u_facts hfc hkC (u_lays hts hin hk) hi).1
  have hi2 : s.fieldFound? ref (T k).2.1 (T k).2.2.1 = some (cf, kf, fi, f) := by rw [← hsame]; exact hi
  have hcf : m.cls = cf := by
    obtain ⟨_, _, c', _, _, _, -, -, hf', -, -, -, hown2, -⟩ := Cond.laysFinal_spec hlay
    have e1 : c' = cf := by have := hi.symm.trans hf'; simp at this; exact this.1.symm
    rw [hdecl] at hown2
    rw [← e1]; exact Option.some.inj (K.2.2.2.1.symm.trans hown2)
  have h6 := u_fits hfc hkC hkind (Or.inr hlay) hi (hty k hk) hn hfit
  refine W.putFinK K.1 K.2.1 K.2.2.2.1 (hts _ hw) hi2 hst hcf hin2 (by rw [q2]; exact h6) q1 q3 (by rw [hsl]; exact k2_hasslot (q4 k hk)) rfl rfl hdg fun H' e1 e2 e3 => ?_
  rw [hsl] at e1 ⊢
  exact kk H' _ ls (hP.set hD he ⟨_, hc, t_OB.to (V := updV (vp_V fs) k v) ⟨_, e1, q2, q3, t_set q4 hap hk v⟩ (fun j _ => vp_updV_set hl0 v j)⟩ e3) (hD.set he) (hS.put e2 e3 hA) hl
theorem z_objInit (K : z_K p l s m args meth c G A D tys cc nL ret Ts own) {index : Nat} (h1 : Cond.methodLink own index Lib.objectInit ∈ Ts) (h2 : Cond.instanceMethod Lib.objectInit ∈ Ts) (h3 : Cond.code Lib.objectInit ⟨#[0xb1]⟩ 1 none ∈ Ts) {a : Nat} (hdg : decode cc pc = .ok (.invokespecial index, 3)) (hf : 1 ≤ R.frames) (hloc : (st.map fun v => v.category).sum + 12 ≤ R.locals) (kk : Z p l e R s m args below meth c D nL G A Q ws lv cells slots (pc + 3) st) : Z p l e R s m args below meth c D nL G A Q ws lv cells slots pc (.ref a :: st) := fun H locs ls hP hD hS hl =>
  W.objInit K.1 K.2.1 K.2.2.2.1 (K.2.2.2.2.1 _ h1) (K.2.2.2.2.1 _ h2) (K.2.2.2.2.1 _ h3) rfl (by rw [K.2.2.1]; exact hl.1) rfl hdg hf (by show 2 * 0 + _ + 12 ≤ _; omega) (kk H locs ls hP hD hS hl)
/-- a new array of ints: the class of the tables -/
theorem z_newI (K : z_K p l s m args meth c G A D tys cc nL ret Ts own) (harr : Cond.arrayClass .int ∈ Ts) (t0 : Nat) {cI : ClassId} (ht : tys[t0]? = some (cI, .int)) {n : Int32} (N : Nat) (hn : n = nI N) (hN : N < 65536) (hdg : decode cc pc = .ok (.newarray .int, 2)) (hcc : cells + 1 ≤ R.cells) (hsl : slots + N ≤ R.slots) (kk : ∀ q : Nat, s.heap.size ≤ q → Z p l e R s m args below meth c D nL G A Q (ws ++ [(q, .inl (cI, N, .inl (fun _ => 0)))]) lv (cells + 1) (slots + N) (pc + 2) (.ref q :: st)) : Z p l e R s m args below meth c D nL G A Q ws lv cells slots pc (.int n :: st) := by
  intro H locs ls hP hD hS hl
  subst hn
  have hfI : s.vm.findClass ("[" ++ (FieldType.int).toString) = some cI := (K.2.2.2.2.2.1.2 t0 _ ht).2
  refine va_newaK K.1 K.2.1 (atype := .int) (K.2.2.2.2.1 _ harr) rfl hdg (n := nI N) (N := N) (rest := st) rfl (nI_pos (by omega)) (nI_clamp (by omega)) (by show N * 4 ≤ _; omega) hcc hsl rfl ?_
  intro H' cA h1 h2 h3 h4 h5
  have e : cA = cI := Option.some.inj (h5.symm.trans hfI)
  subst e
  have hq : s.heap.size ≤ H.size := hS.1
  have hP' : va_P D vwCl ws H' := hP.kept (fun k q hk => h3 q.1 (hP k q hk).lt)
  refine kk H.size hq H' locs ls ?_ (hD.push hP rfl (K.2.2.2.2.2.2.2.2.1.2.2.1 _ hq)) ⟨by omega, fun q g1 g2 => by rw [h3 q (by omega)]; exact hS.2.1 q g1 g2, hS.2.2⟩ hl
  refine va_P.app hP' ?_
  intro k q hk
  have hz : k < 1 := (List.getElem?_eq_some_iff.mp hk).1
  rw [show k = 0 by omega] at hk
  cases hk
  show H'[H.size]? = some (vp_cell _ _)
  rw [h1]; rfl
theorem z_loopC {wsf : Nat → va_W} {lvf : Nat → List (Nat × Value)} (cf sf : Nat → Nat) (n : Nat) (hw : wsf 0 = ws) (hl : lvf 0 = lv) (hc : cf 0 = cells) (hsl : sf 0 = slots) (h0 : Z p l e R s m args below meth c D nL G A Q (wsf n) (lvf n) (cf n) (sf n) pc st) (hs : ∀ k, k < n → Z p l e R s m args below meth c D nL G A Q (wsf (k + 1)) (lvf (k + 1)) (cf (k + 1)) (sf (k + 1)) pc st → Z p l e R s m args below meth c D nL G A Q (wsf k) (lvf k) (cf k) (sf k) pc st) : Z p l e R s m args below meth c D nL G A Q ws lv cells slots pc st := by
  subst hw hl hc hsl
  exact z_down (P := fun k => Z p l e R s m args below meth c D nL G A Q (wsf k) (lvf k) (cf k) (sf k) pc st) n h0 hs 0 (Nat.zero_le _)

end ZENDS
