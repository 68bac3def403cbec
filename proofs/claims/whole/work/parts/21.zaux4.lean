section ZAUX4
variable {p : Program} {l : Launch} {e : Env} {R : Room} {s : State} {m : MethodId} {args : Array Value} {below : List Frame} {meth : Method} {c : Code} {D : va_G} {nL : Nat} {G A : Nat → Prop} {Q : State → Prop} {ws : va_W} {lv : List (Nat × Value)} {cells slots pc : Nat} {st : List Value} {cc : ByteArray} {ret : Option FieldType} {Ts : List Cond} {own : String} {tys : List (ClassId × FieldType)}
/-! new cells: constructors, arrays -/
theorem z_putF (K : z_K p l s m args meth c G A D tys cc nL ret Ts own) {C ref : String} {T : u_T} {N ci index : Nat} (hin : ∀ w ∈ u_ws C T N, w ∈ Ts) (hc : vwCl[ci]? = some (C, T, N)) (ty0 : Nat → FieldType) (hty : ∀ k, k < N → parseFieldDescriptor (T k).2.2.1 = some (ty0 k)) (hnm : ∀ a, a < N → ∀ b, b < N → a ≠ b → (T a).2.1 ≠ (T b).2.1) (q0 : Nat) {a : Nat} {fs : List Value} (he : ws[q0]? = some (a, .inr (ci, fs))) (k : Nat) (hk : k < N) (hw : Cond.fieldLink own index ref (T k).2.1 (T k).2.2.1 ∈ Ts) (hsame : (T k).1 = ref) (hfin : (T k).2.2.2 = true) (hin2 : meth.name = "<init>") (hdecl : (T k).1 = own) {v : Value} (hn : narrow (ty0 k) v = v) (hfit : fits (ty0 k) v = true) (hl0 : k < fs.length) (hA : A a) {ws' : va_W} (hws : ws.set q0 (a, .inr (ci, fs.set k v)) = ws') (hdg : decode cc pc = .ok (.putfield index, 3)) (kk : Z p l e R s m args below meth c D nL G A Q ws' lv cells slots (pc + 3) st) : Z p l e R s m args below meth c D nL G A Q ws lv cells slots pc (v :: .ref a :: st) := by
  intro H locs ls hP hD hS hl
  subst hws
  have hts := K.2.2.2.2.1
  have hap := va_apart (own := own) hts hin ty0 hty hnm K.2.2.2.2.2.1 hc
  obtain ⟨r, h1, cell, q1, q2, q3, q4⟩ := hP q0 _ he
  have hr : r = (C, T, N) := Option.some.inj (h1.symm.trans hc)
  subst hr
  obtain ⟨hSl, hfc, kC, hkC, hkind⟩ := K.2.2.2.2.2.1.1 ci _ hc
  obtain ⟨cf, kf, fi, f, hi, hsl⟩ := hSl k hk
  have hlay := hts _ (hin _ (u_in_lay hk))
  unfold u_lay at hlay
  rw [if_pos hfin] at hlay
  have hst := (u_facts hfc hkC (u_lays hts hin hk) hi).1
  have hi2 : s.fieldFound? ref (T k).2.1 (T k).2.2.1 = some (cf, kf, fi, f) := by rw [← hsame]; exact hi
  have hcf : m.cls = cf := by
    obtain ⟨_, _, c', _, _, _, -, -, hf', -, -, -, hown2, -⟩ := Cond.laysFinal_spec hlay
    have e1 : c' = cf := by have := hi.symm.trans hf'; simp at this; exact this.1.symm
    rw [hdecl] at hown2
    rw [← e1]; exact Option.some.inj (K.2.2.2.1.symm.trans hown2)
  have h6 := u_fits hfc hkC hkind (Or.inr hlay) hi (hty k hk) hn hfit
  refine W.putFinK K.1 K.2.1 K.2.2.2.1 (hts _ hw) hi2 hst hcf hin2 (by rw [q2]; exact h6) q1 q3 (by rw [hsl]; exact k2_hasslot (q4 k hk)) rfl rfl hdg fun H' e1 e2 e3 => ?_
  rw [hsl] at e1 ⊢
  exact kk H' _ ls (hP.set hD he ⟨_, hc, t_OB.to (V := updV (vp_V fs) k v) ⟨_, e1, q2, q3, t_set q4 hap hk v⟩ (fun j _ => vp_updV_set hl0 v j)⟩ e3) (hD.set he) (hS.put e2 e3 hA) hl
theorem z_objInit (K : z_K p l s m args meth c G A D tys cc nL ret Ts own) {index : Nat} (h1 : Cond.methodLink own index Lib.objectInit ∈ Ts) (h2 : Cond.instanceMethod Lib.objectInit ∈ Ts) (h3 : Cond.code Lib.objectInit ⟨#[0xb1]⟩ 1 none ∈ Ts) {a : Nat} (hdg : decode cc pc = .ok (.invokespecial index, 3)) (hf : 1 ≤ R.frames) (hloc : (st.map fun v => v.category).sum + 12 ≤ R.locals) (kk : Z p l e R s m args below meth c D nL G A Q ws lv cells slots (pc + 3) st) : Z p l e R s m args below meth c D nL G A Q ws lv cells slots pc (.ref a :: st) := fun H locs ls hP hD hS hl =>
  W.objInit K.1 K.2.1 K.2.2.2.1 (K.2.2.2.2.1 _ h1) (K.2.2.2.2.1 _ h2) (K.2.2.2.2.1 _ h3) rfl (by rw [K.2.2.1]; exact hl.1) rfl hdg hf (by show 2 * 0 + _ + 12 ≤ _; omega) (kk H locs ls hP hD hS hl)
/-- a new array of ints: the class of the tables -/
theorem z_newI (K : z_K p l s m args meth c G A D tys cc nL ret Ts own) (harr : Cond.arrayClass .int ∈ Ts) (t0 : Nat) {cI : ClassId} (ht : tys[t0]? = some (cI, .int)) {n : Int32} (N : Nat) (hn : n = nI N) (hN : N < 65536) (hdg : decode cc pc = .ok (.newarray .int, 2)) (hcc : cells + 1 ≤ R.cells) (hsl : slots + N ≤ R.slots) (kk : ∀ q : Nat, s.heap.size ≤ q → Z p l e R s m args below meth c D nL G A Q (ws ++ [(q, .inl (cI, N, .inl (fun _ => 0)))]) lv (cells + 1) (slots + N) (pc + 2) (.ref q :: st)) : Z p l e R s m args below meth c D nL G A Q ws lv cells slots pc (.int n :: st) := by
  intro H locs ls hP hD hS hl
  subst hn
  have hfI : s.vm.findClass ("[" ++ (FieldType.int).toString) = some cI := (K.2.2.2.2.2.1.2 t0 _ ht).2
  refine va_newaK K.1 K.2.1 (atype := .int) (K.2.2.2.2.1 _ harr) rfl hdg (n := nI N) (N := N) (rest := st) rfl (nI_pos (by omega)) (nI_clamp (by omega)) (by show N * 4 ≤ _; omega) hcc hsl rfl ?_
  intro H' cA h1 h2 h3 h4 h5
  have e : cA = cI := Option.some.inj (h5.symm.trans hfI)
  subst e
  have hq : s.heap.size ≤ H.size := hS.1
  have hP' : va_P D vwCl ws H' := hP.kept (fun k q hk => h3 q.1 (hP k q hk).lt)
  refine kk H.size hq H' locs ls ?_ (hD.push hP rfl (K.2.2.2.2.2.2.2.2.1.2.2.1 _ hq)) ⟨by omega, fun q g1 g2 => by rw [h3 q (by omega)]; exact hS.2.1 q g1 g2, hS.2.2⟩ hl
  refine va_P.app hP' ?_
  intro k q hk
  have hz : k < 1 := (List.getElem?_eq_some_iff.mp hk).1
  rw [show k = 0 by omega] at hk
  cases hk
  show H'[H.size]? = some (vp_cell _ _)
  rw [h1]; rfl
theorem z_loopC {wsf : Nat → va_W} {lvf : Nat → List (Nat × Value)} (cf sf : Nat → Nat) (n : Nat) (hw : wsf 0 = ws) (hl : lvf 0 = lv) (hc : cf 0 = cells) (hsl : sf 0 = slots) (h0 : Z p l e R s m args below meth c D nL G A Q (wsf n) (lvf n) (cf n) (sf n) pc st) (hs : ∀ k, k < n → Z p l e R s m args below meth c D nL G A Q (wsf (k + 1)) (lvf (k + 1)) (cf (k + 1)) (sf (k + 1)) pc st → Z p l e R s m args below meth c D nL G A Q (wsf k) (lvf k) (cf k) (sf k) pc st) : Z p l e R s m args below meth c D nL G A Q ws lv cells slots pc st := by
  subst hw hl hc hsl
  exact z_down (P := fun k => Z p l e R s m args below meth c D nL G A Q (wsf k) (lvf k) (cf k) (sf k) pc st) n h0 hs 0 (Nat.zero_le _)

end ZAUX4
/-- the reference's checksum -/
def arr6 (a b c d e f : Int32) : Nat → Int32 := upd (upd (upd (upd (upd (upd (fun _ => 0) 0 a) 1 b) 2 c) 3 d) 4 e) 5 f
def dgA (a : Nat → Int32) (d : Int64) : Nat → Int64 := z_fold (fun k d => mx d (a k)) d
theorem dgA_0 (a : Nat → Int32) (d : Int64) : dgA a d 0 = d := rfl
theorem dgA_succ (a : Nat → Int32) (d : Int64) (k : Nat) : dgA a d (k + 1) = mx (dgA a d k) (a k) := rfl
theorem foldB_0 (p : Nat → Bool) (d : Int64) : foldB p d 0 = d := rfl
def dmF (lm lb lt fm fb fh fp : Nat → Int32) (n : Nat) (d : Int64) (f : Nat) : Int64 := foldB (fun v => ban lm lb fm fb f v) (foldB (fun v => hs (lt v) (nI f)) (foldB (fun b => hs (fb f) (nI b)) (dgA (arr6 (fm f) (pc (fb f)) (fh f) (fp f) (chS fp f n) (plS lt f 6)) d 6) 12) 6) 6
def dmV (lw lm lb lt fm fb : Nat → Int32) (n : Nat) (d : Int64) (v : Nat) : Int64 := foldB (fun o => hs (lw v) (nI o)) (mx (mx (mx d (pc (lt v))) (awS lm lb fm fb v n)) (pc (lm v) + pc (lb v))) 6
def dm0 (lt fm fb : Nat → Int32) (n : Nat) (se hu : Int32) : Int64 := dgA (arr6 (nI n) se (allM lt 6) hu (favY lt fm fb n true 10).1 (favY lt fm fb n false 12).1) 1861 6
def dm1 (lm lb lt fm fb fh fp : Nat → Int32) (n : Nat) (d : Int64) : Nat → Int64 := z_fold (fun f a => dmF lm lb lt fm fb fh fp n a f) d
theorem dm1_0 (lm lb lt fm fb fh fp : Nat → Int32) (n : Nat) (d : Int64) : dm1 lm lb lt fm fb fh fp n d 0 = d := rfl
theorem dm1_succ (lm lb lt fm fb fh fp : Nat → Int32) (n : Nat) (d : Int64) (f : Nat) : dm1 lm lb lt fm fb fh fp n d (f + 1) = dmF lm lb lt fm fb fh fp n (dm1 lm lb lt fm fb fh fp n d f) f := rfl
def dm2 (lw lm lb lt fm fb : Nat → Int32) (n : Nat) (d : Int64) : Nat → Int64 := z_fold (fun v a => dmV lw lm lb lt fm fb n a v) d
theorem dm2_0 (lw lm lb lt fm fb : Nat → Int32) (n : Nat) (d : Int64) : dm2 lw lm lb lt fm fb n d 0 = d := rfl
theorem dm2_succ (lw lm lb lt fm fb : Nat → Int32) (n : Nat) (d : Int64) (v : Nat) : dm2 lw lm lb lt fm fb n d (v + 1) = dmV lw lm lb lt fm fb n (dm2 lw lm lb lt fm fb n d v) v := rfl
