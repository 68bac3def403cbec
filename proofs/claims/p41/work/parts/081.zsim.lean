section ZSIM
variable {p : Program} {l : Launch} {e : Env} {R : Room} {s : State} {m : MethodId} {args : Array Value} {below : List Frame} {meth : Method} {c : Code} {D : va_G} {nL : Nat} {G A : Nat → Prop} {Q : State → Prop} {ws : va_W} {lv : List (Nat × Value)} {cells slots pc : Nat} {st : List Value} {cc : ByteArray} {ret : Option FieldType} {Ts : List Cond} {own : String} {tys : List (ClassId × FieldType)}
/-! arrays of truths, arrays of arrays -/
theorem z_zald (K : z_K p l s m args meth c G A D tys cc nL ret Ts own) (q0 t0 k : Nat) {a : Nat} {cA : ClassId} {n : Nat} {f : Nat → Int32} (ha : ws[q0]? = some (a, .inl (cA, n, .inl f))) (ht : tys[t0]? = some (cA, .boolean)) (hk : k < n) (hn : n < 2 ^ 31) (hdg : decode cc pc = .ok (.baload, 1)) {x : Int32} (hx : f k = x) (kk : Z p l e R s m args below meth c D nL G A Q ws lv cells slots (pc + 1) (.int x :: st)) : Z p l e R s m args below meth c D nL G A Q ws lv cells slots pc (.int (nI k) :: .ref a :: st) := fun H locs ls hP hD hS hl => va_zald K.1 K.2.1 K.2.2.2.2.2.1 hP q0 t0 ha ht (vp_in_nI hk hn) hdg (by rw [nI_clamp (Nat.lt_trans hk hn), hx]; exact kk H locs ls hP hD hS hl)
theorem z_zast (K : z_K p l s m args meth c G A D tys cc nL ret Ts own) (q0 t0 k : Nat) {a : Nat} {cA : ClassId} {n : Nat} {f : Nat → Int32} {b : Bool} {x : Int32} (hx : x = z_b b) (ha : ws[q0]? = some (a, .inl (cA, n, .inl f))) (ht : tys[t0]? = some (cA, .boolean)) (hk : k < n) (hn : n < 2 ^ 31) (hdg : decode cc pc = .ok (.bastore, 1)) (hA : A a) {ws' : va_W} (hws : ws.set q0 (a, .inl (cA, n, .inl (upd f k (z_b b)))) = ws') (kk : Z p l e R s m args below meth c D nL G A Q ws' lv cells slots (pc + 1) st) : Z p l e R s m args below meth c D nL G A Q ws lv cells slots pc (.int x :: .int (nI k) :: .ref a :: st) := by
  intro H locs ls hP hD hS hl
  subst hws hx
  have hj : (nI k).toNatClampNeg = k := nI_clamp (Nat.lt_trans hk hn)
  refine W.zast K.1 K.2.1 (hP q0 _ ha) ((K.2.2.2.2.2.1.2 t0 _ ht).1 n (fun j => .int (f j))) (fun q => by cases q) (by show ¬ (nI k < 0 ∨ (arrV _ _ _).slots.size ≤ _); rw [arrV_size]; exact vp_in_nI hk hn) rfl rfl hdg fun H1 e z oq => ?_
  refine kk H1 _ ls (hP.set hD ha ?_ oq) (hD.set ha) (hS.put z oq hA) hl
  show H1[a]? = some (vp_cell _ _)
  rw [e, hj]
  rw [vp_cell_i, vp_cell_i, arrV_store]
  show some (arrV cA n _) = some (arrV cA n _)
  congr 2
  funext q
  have hnb : narrow .boolean (.int (z_b b)) = .int (z_b b) := by cases b <;> rfl
  by_cases hq : q = k
  · subst hq
    simp [updV, upd, hnb]
  · simp [updV, upd, hq]
theorem z_aald (K : z_K p l s m args meth c G A D tys cc nL ret Ts own) (q0 t0 k : Nat) {a : Nat} {cA : ClassId} {ty : FieldType} {n : Nat} {f : Nat → Option Nat} (ha : ws[q0]? = some (a, .inl (cA, n, .inr (.inr (.inr (.inr f)))))) (ht : tys[t0]? = some (cA, ty)) (hty : ty.isReference = true) (hk : k < n) (hn : n < 2 ^ 31) {y : Nat} (hy : f k = some y) (hdg : decode cc pc = .ok (.aaload, 1)) (kk : Z p l e R s m args below meth c D nL G A Q ws lv cells slots (pc + 1) (.ref y :: st)) : Z p l e R s m args below meth c D nL G A Q ws lv cells slots pc (.int (nI k) :: .ref a :: st) := fun H locs ls hP hD hS hl => by
  have hj : (nI k).toNatClampNeg = k := nI_clamp (Nat.lt_trans hk hn)
  exact W.aald (v := .ref y) (ty := ty) K.1 K.2.1 (hP q0 _ ha) ((K.2.2.2.2.2.1.2 t0 _ ht).1 n (fun j => va_rf (f j))) hty (fun q => by cases q) (by show ¬ (nI k < 0 ∨ (arrV _ _ _).slots.size ≤ _); rw [arrV_size]; exact vp_in_nI hk hn) (by show (arrV _ _ _).slots[_]? = _; rw [hj, arrV_read _ _ hk, hy]; rfl) rfl rfl hdg (kk H locs ls hP hD hS hl)
theorem z_aast (K : z_K p l s m args meth c G A D tys cc nL ret Ts own) {t : FieldType} (hAO : va_AOA t s) (q0 q1 t0 k : Nat) {a v : Nat} {cA cB : ClassId} {n : Nat} {f : Nat → Option Nat} {x : vp_A} (ha : ws[q0]? = some (a, .inl (cA, n, .inr (.inr (.inr (.inr f)))))) (ht : tys[t0]? = some (cA, .array t)) (hv : ws[q1]? = some (v, .inl (cB, x))) (hcB : s.vm.findClass (FieldType.array t).toString = some cB) (hk : k < n) (hn : n < 2 ^ 31) (hdg : decode cc pc = .ok (.aastore, 1)) (hA : A a) {ws' : va_W} (hws : ws.set q0 (a, .inl (cA, n, .inr (.inr (.inr (.inr (va_up f k (some v))))))) = ws') (kk : Z p l e R s m args below meth c D nL G A Q ws' lv cells slots (pc + 1) st) : Z p l e R s m args below meth c D nL G A Q ws lv cells slots pc (.ref v :: .int (nI k) :: .ref a :: st) := by
  intro H locs ls hP hD hS hl
  subst hws
  have hj : (nI k).toNatClampNeg = k := nI_clamp (Nat.lt_trans hk hn)
  obtain ⟨comp, c0, kA, g1, -, g3, g4, g5⟩ := arrayOverA_spec hAO
  have e0 : c0 = cA := Option.some.inj (g5.symm.trans (K.2.2.2.2.2.1.2 t0 _ ht).2)
  have e1 : comp = cB := Option.some.inj (g1.symm.trans hcB)
  subst e0 e1
  obtain ⟨kB, hkB, -⟩ := Vm.findClass_spec hcB
  have hvm0 : (vp_cell comp x).vm = .none := by
    obtain ⟨n, f | f | f | f | f⟩ := x <;> rfl
  have hcl0 : (vp_cell comp x).cls = comp := by
    obtain ⟨n, f | f | f | f | f⟩ := x <;> rfl
  refine W.aast K.1 K.2.1 (hP q0 _ ha) (fun q h => by cases h) (fun h => by cases h) g3 g4 rfl hkB ⟨nI_pos (Nat.lt_trans hk hn), by show _ < (arrV _ _ _).slots.size; rw [arrV_size, hj]; exact hk⟩ (hP q1 _ hv) (fun q h => by rw [hvm0] at h; cases h) (by rw [hcl0]; exact hkB) (by rw [hcl0]; exact va_asg _ _) rfl rfl hdg fun H1 e z oq => ?_
  refine kk H1 _ ls (hP.set hD ha ?_ oq) (hD.set ha) (hS.put z oq hA) hl
  show H1[a]? = some (vp_cell _ _)
  rw [e, hj]
  rw [vp_cell_q, vp_cell_q, arrV_store]
  show some (arrV c0 n _) = some (arrV c0 n _)
  congr 2
  funext q
  by_cases hq : q = k
  · subst hq
    simp [updV, va_up, va_rf]
  · simp [updV, va_up, hq]
/-- the cell that has just been made -/
theorem z_born {H H1 : Heap} {e : va_E} {locs : List Loc} (K : z_K p l s m args meth c G A D tys cc nL ret Ts own) (hP : va_P D vwCl ws H) (hD : va_D G ws) (hS : va_S A s.heap H locs) (z1 : H1.size = H.size + 1) (o1 : ∀ q : Nat, q < H.size → H1[q]? = H[q]?) (h1 : va_at D vwCl (H.size, e) H1) : va_P D vwCl (ws ++ [(H.size, e)]) H1 ∧ va_D G (ws ++ [(H.size, e)]) ∧ va_S A s.heap H1 locs := by
  have hq : s.heap.size ≤ H.size := hS.1
  refine ⟨va_P.app (hP.kept (fun k q hk => o1 q.1 (hP k q hk).lt)) ?_, hD.push hP rfl (K.2.2.2.2.2.2.2.2.1.2.2.1 _ hq), ⟨by omega, fun q g1 g2 => by rw [o1 q (by omega)]; exact hS.2.1 q g1 g2, hS.2.2⟩⟩
  intro k q hk
  have hz : k < 1 := (List.getElem?_eq_some_iff.mp hk).1
  rw [show k = 0 by omega] at hk
  cases hk
  exact h1
theorem z_newZ (K : z_K p l s m args meth c G A D tys cc nL ret Ts own) (harr : Cond.arrayClass .boolean ∈ Ts) (t0 : Nat) {cZ : ClassId} (ht : tys[t0]? = some (cZ, .boolean)) {n : Int32} (N : Nat) (hn : n = nI N) (hN : N < 65536) (hdg : decode cc pc = .ok (.newarray .boolean, 2)) (hcc : cells + 1 ≤ R.cells) (hsl : slots + N ≤ R.slots) (kk : ∀ q : Nat, s.heap.size ≤ q → Z p l e R s m args below meth c D nL G A Q (ws ++ [(q, .inl (cZ, N, .inl (fun _ => 0)))]) lv (cells + 1) (slots + N) (pc + 2) (.ref q :: st)) : Z p l e R s m args below meth c D nL G A Q ws lv cells slots pc (.int n :: st) := by
  intro H locs ls hP hD hS hl
  subst hn
  have hfI : s.vm.findClass ("[" ++ (FieldType.boolean).toString) = some cZ := (K.2.2.2.2.2.1.2 t0 _ ht).2
  refine va_newaK K.1 K.2.1 (atype := .boolean) (K.2.2.2.2.1 _ harr) rfl hdg (n := nI N) (N := N) (rest := st) rfl (nI_pos (by omega)) (nI_clamp (by omega)) (by show N * 1 ≤ _; omega) hcc hsl rfl ?_
  intro H' cA h1 h2 h3 h4 h5
  have e : cA = cZ := Option.some.inj (h5.symm.trans hfI)
  subst e
  obtain ⟨g1, g2, g3⟩ := z_born (e := .inl (cA, N, .inl (fun _ => 0))) K hP hD hS h2 h3 (by show H'[H.size]? = some (vp_cell _ _); rw [h1]; rfl)
  exact kk H.size hS.1 H' locs ls g1 g2 g3 hl
theorem z_newA (K : z_K p l s m args meth c G A D tys cc nL ret Ts own) {t : FieldType} {index : Nat} (hcl : Cond.classLink own index (FieldType.array t).toString ∈ Ts) (hAO : va_AOA t s) (t0 : Nat) {cQ : ClassId} (ht : tys[t0]? = some (cQ, .array t)) {n : Int32} (N : Nat) (hn : n = nI N) (hN : N < 65536) (hdg : decode cc pc = .ok (.anewarray index, 3)) (hcc : cells + 1 ≤ R.cells) (hsl : slots + N ≤ R.slots) (kk : ∀ q : Nat, s.heap.size ≤ q → Z p l e R s m args below meth c D nL G A Q (ws ++ [(q, .inl (cQ, N, .inr (.inr (.inr (.inr (fun _ => none))))))]) lv (cells + 1) (slots + N) (pc + 3) (.ref q :: st)) : Z p l e R s m args below meth c D nL G A Q ws lv cells slots pc (.int n :: st) := by
  intro H locs ls hP hD hS hl
  subst hn
  have hj : (nI N).toNatClampNeg = N := nI_clamp (by omega)
  refine W.anewA K.1 K.2.1 K.2.2.2.1 (K.2.2.2.2.1 _ hcl) (va_AOA.use hAO) rfl hdg rfl (nI_pos (by omega)) (by rw [hj]; omega) hcc (by rw [hj]; exact hsl) fun cA kA comp f1 f2 f3 f4 => ?_
  rw [hj]
  have e : cA = cQ := Option.some.inj (f1.symm.trans (K.2.2.2.2.2.1.2 t0 _ ht).2)
  subst e
  obtain ⟨g1, g2, g3⟩ := z_born (e := .inl (cA, N, .inr (.inr (.inr (.inr (fun _ => none)))))) K hP hD hS (H1 := H.push ({ cls := cA, slots := Array.replicate N .null, vm := .none } : Cell)) (by rw [Array.size_push]) (fun q hq => by rw [Array.getElem?_push, if_neg (Nat.ne_of_lt hq)]) (by show (H.push _)[H.size]? = some (vp_cell _ _); rw [Array.getElem?_push_size, arrV_new]; rfl)
  exact kk H.size hS.1 _ locs ls g1 g2 g3 hl
/-- rows of one kind, by their numbers -/
def sm_rows (L : Nat) (r : Nat → Nat) (x : Nat → va_E) : va_W := (List.range L).map (fun k => (r k, x k))
def sm_ref (L : Nat) (r : Nat → Nat) : Nat → Option Nat := fun i => if i < L then some (r i) else none
/-- a row of truths, as an array holds it -/
def rw1 (F : Nat → Bool) : Nat → Int32 := fun j => z_b (F j)
/-- an array of arrays of truths -/
def gridW (cW cZ : ClassId) (q L M : Nat) (r : Nat → Nat) (T : Nat → Nat → Bool) : va_W := (q, .inl (cW, L, .inr (.inr (.inr (.inr (sm_ref L r)))))) :: sm_rows L r (fun g => .inl (cZ, M, .inl (rw1 (T g))))
/-- new boolean[N][M] -/
theorem z_mna (K : z_K p l s m args meth c G A D tys cc nL ret Ts own) {index : Nat} (hcl : Cond.classLink own index ("[" ++ (FieldType.array .boolean).toString) ∈ Ts) (harr : Cond.arrayClass .boolean ∈ Ts) (hAO : va_AOA .boolean s) (t0 t1 : Nat) {cA cy : ClassId} (ht0 : tys[t0]? = some (cA, .array .boolean)) (ht1 : tys[t1]? = some (cy, .boolean)) {n k : Int32} (N M : Nat) (hn : n = nI N) (hm : k = nI M) (hN : N < 65536) (hM : M < 65536) (hcc : cells + (1 + N) ≤ R.cells) (hsl : slots + (N + N * M) ≤ R.slots) (hdg : decode cc pc = .ok (.multianewarray index 2, 4))
    (kk : ∀ (q : Nat) (r : Nat → Nat), s.heap.size ≤ q → (∀ i, i < N → s.heap.size ≤ r i) → Z p l e R s m args below meth c D nL G A Q (ws ++ gridW cA cy q N M r (fun _ _ => false)) lv (cells + (1 + N)) (slots + (N + N * M)) (pc + 4) (.ref q :: st)) : Z p l e R s m args below meth c D nL G A Q ws lv cells slots pc (.int k :: .int n :: st) := by
  intro H locs ls hP hD hS hl T hT Xs
  subst hn hm
  have hjN : (nI N).toNatClampNeg = N := nI_clamp (by omega)
  have hjM : (nI M).toNatClampNeg = M := nI_clamp (by omega)
  have hcy : s.vm.findClass (FieldType.array .boolean).toString = some cy := (K.2.2.2.2.2.1.2 t1 _ ht1).2
  have hts := K.2.2.2.2.1
  obtain ⟨vm₁, cA', comp, -, fA, fC, hO, -, X', step⟩ := Xs.multianewarray2F (ty := .boolean) K.1 K.2.2.2.1 (hts _ hcl) (va_AOA.use hAO) (hts _ harr) (g := F0 m pc ls (.int (nI M) :: .int (nI N) :: st)) rfl (by rw [K.2.1]; exact hdg) rfl (nI_pos (by omega)) (nI_pos (by omega)) (by rw [hjN]; omega) (by rw [hjM]; show M * 1 ≤ _; omega) (by rw [hjM]; omega) rfl rfl (by rw [hjN]; exact hcc) (by rw [hjN, hjM]; exact hsl)
  rw [hjN, hjM] at X' step
  have ec : cy = comp := Option.some.inj (hcy.symm.trans fC)
  have ea : cA' = cA := Option.some.inj (fA.symm.trans (K.2.2.2.2.2.1.2 t0 _ ht0).2)
  subst ec ea
  generalize hF : Jvm.Free.Multi.fill (T.setVm vm₁) cA' cy N M (defaultValue .boolean) N = F at X' step
  have hTh : (T.setVm vm₁).heap = H := hT
  obtain ⟨f1, f2, -, -⟩ := Jvm.Free.Multi.fill_facts (T.setVm vm₁) cA' cy N M (defaultValue .boolean) N
  rw [hF, hTh] at f1 f2
  have hold : ∀ x : Nat, x < H.size → F.heap[x]? = H[x]? := fun x hx => by
    have := Jvm.Free.Multi.fill_old (T.setVm vm₁) cA' cy N M (defaultValue .boolean) (a := x) (by rw [hTh]; exact hx) N
    rw [hF, hTh] at this
    exact this
  have hz : Jvm.Free.Multi.innerC cy M (defaultValue .boolean) = vp_cell cy (M, .inl (fun _ => 0)) := by
    rw [vp_cell_i]
    exact arrV_new cy M (.int 0)
  have hrow : ∀ j : Nat, j < N → F.heap[H.size + 1 + j]? = some (vp_cell cy (M, .inl (fun _ => 0))) := fun j hj => by
    have := Jvm.Free.Multi.fill_inner (T.setVm vm₁) cA' cy N M (defaultValue .boolean) N j hj
    rw [hF, hTh, hz] at this
    exact this
  have hout : Jvm.Free.Multi.outerC cA' N H.size N = vp_cell cA' (N, .inr (.inr (.inr (.inr (sm_ref N (fun i => H.size + 1 + i)))))) := by
    rw [vp_cell_q]
    exact vr_outer cA' N H.size N
  rw [hout] at f2
  have hq : s.heap.size ≤ H.size := hS.1
  have hGs := K.2.2.2.2.2.2.2.2.1.2.2.1
  have hz0 : rw1 (fun _ => false) = fun _ => 0 := rfl
  have hnew : ∀ (k9 : Nat) (x : Nat × va_E), (gridW cA' cy H.size N M (fun i => H.size + 1 + i) (fun _ _ => false))[k9]? = some x → x.1 = H.size + k9 ∧ va_at D vwCl x F.heap := fun k9 x hx => by
    cases k9 with
    | zero =>
      cases hx
      exact ⟨rfl, f2⟩
    | succ j =>
      have hx' : (sm_rows N (fun i => H.size + 1 + i) (fun _ => .inl (cy, M, .inl (fun _ => 0))))[j]? = some x := hx
      unfold sm_rows at hx'
      rw [List.getElem?_map] at hx'
      by_cases h9 : j < N
      · rw [List.getElem?_range h9] at hx'
        cases hx'
        exact ⟨by show H.size + 1 + j = _; omega, hrow j h9⟩
      · have hn0 : (List.range N)[j]? = none := List.getElem?_eq_none (by rw [List.length_range]; omega)
        rw [hn0] at hx'
        cases hx'
  have hP1 := va_P.app (hP.kept (fun k9 x hx => hold x.1 ((hP k9 x hx).lt))) (fun k9 x hx => (hnew k9 x hx).2)
  have hD1 : va_D G (ws ++ gridW cA' cy H.size N M (fun i => H.size + 1 + i) (fun _ _ => false)) := by
    refine ⟨fun i j x y hi hj hxy => ?_, fun k9 x hx => ?_⟩
    · by_cases h1 : i < ws.length <;> by_cases h2 : j < ws.length
      · rw [List.getElem?_append_left h1] at hi
        rw [List.getElem?_append_left h2] at hj
        exact hD.1 i j x y hi hj hxy
      · rw [List.getElem?_append_left h1] at hi
        rw [List.getElem?_append_right (by omega)] at hj
        have := (hP _ _ hi).lt
        have := (hnew _ _ hj).1
        omega
      · rw [List.getElem?_append_right (by omega)] at hi
        rw [List.getElem?_append_left h2] at hj
        have := (hP _ _ hj).lt
        have := (hnew _ _ hi).1
        omega
      · rw [List.getElem?_append_right (by omega)] at hi hj
        have := (hnew _ _ hi).1
        have := (hnew _ _ hj).1
        omega
    · by_cases h1 : k9 < ws.length
      · rw [List.getElem?_append_left h1] at hx
        exact hD.2 k9 x hx
      · rw [List.getElem?_append_right (by omega)] at hx
        have := (hnew _ _ hx).1
        exact hGs _ (by omega)
  obtain ⟨t, a1, b1⟩ := kk H.size (fun i => H.size + 1 + i) hq (fun i _ => by omega) F.heap locs ls hP1 hD1 ⟨by rw [f1]; omega, fun x h1 h2 => (hold x (Nat.lt_of_lt_of_le h1 hq)).trans (hS.2.1 x h1 h2), hS.2.2⟩ hl F rfl (by rw [← Nat.add_assoc, ← Nat.add_assoc]; exact X')
  refine ⟨t, step t ?_, b1⟩
  have e : T.heap.size = H.size := by rw [hT]
  rw [e]
  exact a1
/-- an array's clone, and the cast of what it answers -/
theorem z_clone (K : z_K p l s m args meth c G A D tys cc nL ret Ts own) {index : Nat} (hlink : Cond.methodLink own index ⟨"[Z", "clone", "()Ljava/lang/Object;"⟩ ∈ Ts) (hsame : Cond.sameMethod "[Z" "java/lang/Object" "clone" "()Ljava/lang/Object;" ∈ Ts) (hnat : Cond.native ⟨"java/lang/Object", "clone", "()Ljava/lang/Object;"⟩ ∈ Ts) (hinst : Cond.instanceMethod ⟨"java/lang/Object", "clone", "()Ljava/lang/Object;"⟩ ∈ Ts) (hsel : Cond.selects "[Z" ⟨"[Z", "clone", "()Ljava/lang/Object;"⟩ ⟨"java/lang/Object", "clone", "()Ljava/lang/Object;"⟩ ∈ Ts)
    (q0 t0 : Nat) {a : Nat} {cA : ClassId} {N : Nat} {f : Nat → Bool} (ha : ws[q0]? = some (a, .inl (cA, N, .inl (fun j => z_b (f j))))) (ht : tys[t0]? = some (cA, .boolean)) (hframes : 1 ≤ R.frames) (hlocals : (st.map fun v => v.category).sum + 14 ≤ R.locals) (hcc : cells + 1 ≤ R.cells) (hsl : slots + N ≤ R.slots) (hdg : decode cc pc = .ok (.invokevirtual index, 3))
    (kk : ∀ q : Nat, s.heap.size ≤ q → Z p l e R s m args below meth c D nL G A Q (ws ++ [(q, .inl (cA, N, .inl (fun j => z_b (f j))))]) lv (cells + 1) (slots + N) (pc + 3) (.ref q :: st)) : Z p l e R s m args below meth c D nL G A Q ws lv cells slots pc (.ref a :: st) := by
  intro H locs ls hP hD hS hl T hT X
  have hts := K.2.2.2.2.1
  have hnm : s.vm.findClass "[Z" = some cA := (K.2.2.2.2.2.1.2 t0 _ ht).2
  obtain ⟨c0, t0', f1, f2, f3⟩ := Cond.castable_spec (va_Nw.use (A := args) rfl K.2.2.2.2.2.2.2.2.1.2.2.2.2.2.2)
  cases hnm.symm.trans f1
  have hcellT : T.heap[a]? = some (vp_cell cA (N, .inl (fun j => z_b (f j)))) := by rw [hT]; exact hP q0 _ ha
  obtain ⟨-, kA, hkA, comp, hkind⟩ := State.isArrayOf_alike X.warmed.alike ((K.2.2.2.2.2.1.2 t0 _ ht).1 0 (fun _ => .null))
  obtain ⟨-, kS, hkS, compS, hkindS⟩ := (K.2.2.2.2.2.1.2 t0 _ ht).1 0 (fun _ => .null)
  have hsz : (vp_cell cA (N, .inl (fun j => z_b (f j)))).slots.size = N := arrV_size _ _ _
  have hfit : ∀ (i : Nat) (v : Value), (vp_cell cA (N, .inl (fun j => z_b (f j)))).slots[i]? = some v → fits .boolean v = true := va_fit (fun i _ => by show fits .boolean (.int (z_b (f i))) = true; cases f i <;> rfl)
  obtain ⟨vm', X', stp⟩ := X.cloneArray K.1 K.2.2.2.1 (hts _ hlink) (hts _ hsame) (hts _ hnat) (hts _ hinst) (hts _ hsel) (a := a) (cell := vp_cell cA (N, .inl (fun j => z_b (f j)))) hcellT (fun k h => by cases h) (fun h => by cases h) hnm f2 f3
    (fun i v hv => by
      have hk' : T.vm.classes[cA]? = some kA := hkA
      simpa [State.fitsSlot, State.slotType?, vp_cell, arrV, hk', hkind] using hfit i v hv)
    (g := F0 m pc ls (.ref a :: st)) rfl (by rw [K.2.2.1]; exact hl.1) rfl (by rw [K.2.1]; exact hdg) hframes (by show 2 * 0 + _ + 14 ≤ _; omega) hcc (by rw [hsz]; exact hsl) (hloader := Vm.clonesLoader_of_array hkS hkindS)
  rw [hsz] at X'
  have hcellE : ({ cls := (vp_cell cA (N, .inl (fun j => z_b (f j)))).cls, slots := (vp_cell cA (N, .inl (fun j => z_b (f j)))).slots } : Cell) = vp_cell cA (N, .inl (fun j => z_b (f j))) := rfl
  rw [hcellE] at X' stp
  obtain ⟨g1, g2, g3⟩ := z_born (e := .inl (cA, N, .inl (fun j => z_b (f j)))) K hP hD hS (H1 := H.push (vp_cell cA (N, .inl (fun j => z_b (f j))))) (by rw [Array.size_push]) (fun q hq => by rw [Array.getElem?_push, if_neg (Nat.ne_of_lt hq)]) (by show (H.push _)[H.size]? = some (vp_cell _ _); rw [Array.getElem?_push_size])
  obtain ⟨t, b1, b2⟩ := kk H.size hS.1 _ locs ls g1 g2 g3 hl ((T.setVm vm').pushCell (vp_cell cA (N, .inl (fun j => z_b (f j))))) (by rw [← hT]; rfl) X'
  refine ⟨t, stp t ?_, b2⟩
  rw [hT]
  exact b1
theorem z_castA (K : z_K p l s m args meth c G A D tys cc nL ret Ts own) {index : Nat} {nm : String} (hlink : Cond.classLink own index nm ∈ Ts) (q0 : Nat) {a : Nat} {cA : ClassId} {x : vp_A} (ha : ws[q0]? = some (a, .inl (cA, x))) (hnm : s.vm.findClass nm = some cA) (hdg : decode cc pc = .ok (.checkcast index, 3)) (kk : Z p l e R s m args below meth c D nL G A Q ws lv cells slots (pc + 3) (.ref a :: st)) : Z p l e R s m args below meth c D nL G A Q ws lv cells slots pc (.ref a :: st) := fun H locs ls hP hD hS hl =>
  va_castA K.1 K.2.1 K.2.2.2.1 (K.2.2.2.2.1 _ hlink) hP q0 ha hnm hdg (kk H locs ls hP hD hS hl)
theorem z_ialdX (K : z_K p l s m args meth c G A D tys cc nL ret Ts own) (t0 k : Nat) {q0 a : Nat} {cA : ClassId} {n : Nat} {f : Nat → Int32} {x : Int32} (hx : f k = x) (hk : k < n) (hn : n < 2 ^ 31) (ha : ws[q0]? = some (a, .inl (cA, n, .inl f))) (ht : tys[t0]? = some (cA, .int)) (hdg : decode cc pc = .ok (.iaload, 1)) (kk : Z p l e R s m args below meth c D nL G A Q ws lv cells slots (pc + 1) (.int x :: st)) : Z p l e R s m args below meth c D nL G A Q ws lv cells slots pc (.int (nI k) :: .ref a :: st) :=
  z_iald K q0 t0 ha ht (vp_in_nI hk hn) hdg (by rw [nI_clamp (Nat.lt_trans hk hn)]; exact hx) kk
/-! numbers, null -/
theorem z_irem (K : z_K p l s m args meth c G A D tys cc nL ret Ts own) {x y : Int32} (a d : Nat) (hx : x = nI a) (hy : y = nI d) (ha : a < 2 ^ 31) (h0 : 0 < d) (hd : d < 2 ^ 31) (hdg : decode cc pc = .ok (.irem, 1)) (kk : Z p l e R s m args below meth c D nL G A Q ws lv cells slots (pc + 1) (.int (nI (a % d)) :: st)) : Z p l e R s m args below meth c D nL G A Q ws lv cells slots pc (.int y :: .int x :: st) := fun H locs ls hP hD hS hl => by
  subst hx hy
  exact lv_irem K.1 K.2.1 hdg (nI_ne0 h0 hd) (by rw [pk_rem ha h0 hd]; exact kk H locs ls hP hD hS hl)
theorem z_idiv (K : z_K p l s m args meth c G A D tys cc nL ret Ts own) {x y : Int32} (a d : Nat) (hx : x = nI a) (hy : y = nI d) (ha : a < 2 ^ 31) (h0 : 0 < d) (hd : d < 2 ^ 31) (hdg : decode cc pc = .ok (.idiv, 1)) (kk : Z p l e R s m args below meth c D nL G A Q ws lv cells slots (pc + 1) (.int (nI (a / d)) :: st)) : Z p l e R s m args below meth c D nL G A Q ws lv cells slots pc (.int y :: .int x :: st) := fun H locs ls hP hD hS hl => by
  subst hx hy
  exact lv_idiv K.1 K.2.1 hdg (nI_ne0 h0 hd) (by rw [pk_div ha h0 hd]; exact kk H locs ls hP hD hS hl)
theorem z_sipush (K : z_K p l s m args meth c G A D tys cc nL ret Ts own) {n : Int} {v : Int32} (hdg : decode cc pc = .ok (.sipush n, 3)) (hv : (Int16.ofInt n).toInt32 = v) (kk : Z p l e R s m args below meth c D nL G A Q ws lv cells slots (pc + 3) (.int v :: st)) : Z p l e R s m args below meth c D nL G A Q ws lv cells slots pc st := fun H locs ls hP hD hS hl => lv_sipush K.1 K.2.1 hdg hv (kk H locs ls hP hD hS hl)
theorem z_ifnonnull (K : z_K p l s m args meth c G A D tys cc nL ret Ts own) {x : Nat} {off : Int} (tgt : Nat) (hdg : decode cc pc = .ok (.ifnonnull off, 3)) (ht : (pc : Int) + off = (tgt : Int)) (kk : Z p l e R s m args below meth c D nL G A Q ws lv cells slots tgt st) : Z p l e R s m args below meth c D nL G A Q ws lv cells slots pc (.ref x :: st) := fun H locs ls hP hD hS hl => lv_ifnonnull K.1 K.2.1 hdg ht (kk H locs ls hP hD hS hl)

/-- a new object of a class of this program -/
theorem z_newO (K : z_K p l s m args meth c G A D tys cc nL ret Ts own) {C : String} {T : u_T} {N ci index : Nat} (hin : ∀ w ∈ u_ws C T N, w ∈ Ts) (ty : Nat → FieldType) (hty : ∀ k, k < N → parseFieldDescriptor (T k).2.2.1 = some (ty k)) (hc : vwCl[ci]? = some (C, T, N)) (hcl : Cond.classLink own index C ∈ Ts) (hinst : Cond.instantiable C N ∈ Ts) (hini : Cond.initialized C ∈ Ts) (fs : List Value) (hfs : ∀ j, j < N → defaultValue (ty j) = vp_V fs j) (hdg : decode cc pc = .ok (.new index, 3)) (hcc : cells + 1 ≤ R.cells) (hsl : slots + N ≤ R.slots)
    (kk : ∀ q : Nat, s.heap.size ≤ q → Z p l e R s m args below meth c D nL G A Q (ws ++ [(q, .inr (ci, fs))]) lv (cells + 1) (slots + N) (pc + 3) (.ref q :: st)) : Z p l e R s m args below meth c D nL G A Q ws lv cells slots pc st := by
  intro H locs ls hP hD hS hl
  have hts := K.2.2.2.2.1
  have hKn := K.2.2.2.2.2.1.1 ci _ hc
  refine W.newcK K.1 K.2.1 K.2.2.2.1 (hts _ hcl) (hts _ hinst) (hts _ hini) rfl hdg hcc hsl hKn.2.1 rfl fun H1 kC hkC e1 z1 o1 => ?_
  have hk : ∀ (k : Nat) (x : Nat × va_E), ws[k]? = some x → H1[x.1]? = H[x.1]? := fun k x hx => o1 x.1 ((hP k x hx).lt)
  refine kk H.size hS.1 H1 locs ls ((hP.kept hk).app (fun k x hx => ?_)) (hD.push hP rfl (K.2.2.2.2.2.2.2.2.1.2.2.1 _ hS.1)) ⟨Nat.le_trans hS.1 (by omega), fun x h1 h2 => (o1 x (Nat.lt_of_lt_of_le h1 hS.1)).trans (hS.2.1 x h1 h2), hS.2.2⟩ hl
  have hz : k < 1 := (List.getElem?_eq_some_iff.mp hx).1
  rw [show k = 0 by omega] at hx
  cases hx
  exact ⟨_, hc, (u_born ty hts hin hKn hkC e1 hty).to hfs⟩
/-- constructors: the object's own cell, and new ones, at addresses that come with it -/
def z_QI (D : va_G) (wf : (Nat → Nat) → va_W) (a : Nat) : Array Value → State → Outcome → State → Prop := fun _ st o t => o = .returned none ∧ (∃ b : Nat → Nat, va_P D vwCl (wf b) t.heap ∧ va_D (va_A [(a, .inr (0, []))] st.heap.size) (wf b)) ∧ z_fr [a] st t
def z_MI (l : Launch) (y : MethodName) (wy : List Cond) (rm : Room) (G : Nat → Prop) (D : va_G) (tys : List (ClassId × FieldType)) (a : Nat) (wp : va_W) (wf : (Nat → Nat) → va_W) (mc ms : Nat) : Prop :=
  ∀ sz : Nat, Met l y wy rm (z_pre l G D tys [.ref a] wp sz) (z_QI D wf a) mc ms (z_A [a] sz)
theorem z_ofWI {y : MethodName} {wy wy' : List Cond} {rm : Room} {a : Nat} {e0 : va_E} {wf : (Nat → Nat) → va_W} {mc ms : Nat} (hy : plainName y.cls = true) (hw : wy = Cond.code y cc nL ret :: wy') (hav : (lg_sl [.ref a]).length ≤ nL)
    (body : ∀ (p : Program) (e : Env) (s : State) (m : MethodId) (args : Array Value) (below : List Frame) (meth : Method) (c : Code), z_K p l s m args meth c G (z_A [a] s.heap.size) D tys cc nL ret wy y.cls → meth.name = y.name → Z p l e rm s m args below meth c D nL G (z_A [a] s.heap.size) (MQ below (z_QI D wf a) args s mc ms (z_A [a] s.heap.size)) [(a, e0)] [(0, .ref a)] 0 0 0 []) : z_MI l y wy rm G D tys a [(a, e0)] wf mc ms := by
  intro sz
  refine Met.ofW (cc := cc) (maxL := nL) (ret := ret) hy hw ?_
  intro p e s m args below meth c s₁ B hml hv
  obtain ⟨hsz, rfl, hP, hE, hD⟩ := hv
  subst hsz
  have hAG : ∀ q, z_A [a] s.heap.size q → G q := fun q h => h.elim (fun h => by rw [List.mem_singleton.mp h]; exact hD.2 0 _ rfl) (fun h => hE.2.2.1 q h)
  have K : z_K p l s m [Value.ref a].toArray meth c G (z_A [a] s.heap.size) D tys cc nL ret wy y.cls := ⟨B.exec, B.bytes, hml, findClass_of_methodNamed B.named, atoms_spec (ws := wy) B.pre, hE.1, B.returns, B.notSynchronized, hE, hAG, fun q h => Or.inr h⟩
  rw [lg_entry_eq]
  exact body p e s m _ below meth c K (name_of_methodNamed B.named B.method).1 s.heap [] _ hP hD va_S.rf (lv_entry [.ref a] hav)
theorem z_iretI {wf : (Nat → Nat) → va_W} {a mc ms : Nat} (K : z_K p l s m args meth c G (z_A [a] s.heap.size) D tys cc nL none Ts own) (hdg : decode cc pc = .ok (.return_, 1)) (b : Nat → Nat) (hb : wf b = ws) (hadr : ∀ x ∈ ws.map Prod.fst, x = a ∨ s.heap.size ≤ x) (hc : cells ≤ mc) (hs : slots ≤ ms) : Z p l e R s m args below meth c D nL G (z_A [a] s.heap.size) (MQ below (z_QI D wf a) args s mc ms (z_A [a] s.heap.size)) ws lv cells slots pc [] := by
  intro H locs ls hP hD hS hl
  subst hb
  refine W.widen hc hs (W.vret K.1 K.2.1 K.2.2.2.2.2.2.1 (fun t ht _ => ⟨rfl, ⟨b, by rw [ht]; exact hP, hD.1, fun k q hk => ?_⟩, ?_⟩) hS.2.2 hdg K.2.2.2.2.2.2.2.1)
  · rcases hadr q.1 (List.mem_map.mpr ⟨q, List.mem_of_getElem? hk, rfl⟩) with h | h
    · rw [h]; exact Or.inl ⟨0, _, rfl⟩
    · exact Or.inr h
  · exact ⟨by rw [ht]; exact hS.1, fun q h1 h2 => by rw [ht]; exact hS.2.1 q h1 (fun h => h.elim h2 (fun h => absurd h (Nat.not_le.mpr h1)))⟩
theorem z_callI {y : MethodName} {wy wy' : List Cond} {rm : Room} {b : Nat} {e0 : va_E} {wr : va_W} {wf : (Nat → Nat) → va_W} {mc ms index maxL : Nat} {by' : ByteArray}
    (K : z_K p l s m args meth c G A D tys cc nL ret Ts own) (hM : z_MI l y wy rm G D tys b [(b, e0)] wf mc ms) (hG : GoodIn Ts wy) (hw : wy = Cond.code y by' maxL none :: wy') (hini : Cond.initialized y.cls ∈ Ts) (hlk : Cond.methodLink own index y ∈ Ts) (hins : Cond.instanceMethod y ∈ Ts) (hy1 : y.name = "<init>")
    (hd : y.cls ≠ "java/lang/invoke/MethodHandle" ∧ y.cls ≠ "java/lang/invoke/VarHandle" ∧ (parseMethodDescriptor y.desc).map (fun d => d.parameters.length) = some 0) (hdg : decode cc pc = .ok (.invokespecial index, 3)) (hb : s.heap.size ≤ b)
    (q0 : Nat) (isR : List Nat) (hrc : rm.cells = mc) (hrs : rm.slots = ms) (hR : rm.frames + 1 ≤ R.frames ∧ 8 + (maxL + 11) + rm.locals ≤ R.locals) (hf : cells + mc ≤ R.cells ∧ slots + ms ≤ R.slots)
    (he : ws[q0]? = some (b, e0)) (hnr : va_nd isR = true) (hdis : ∀ i ∈ isR, i ∉ [q0]) (hr : isR.map (fun i => ws[i]?) = wr.map some) (hcat : (st.map fun v => v.category).sum ≤ 8)
    (kk : ∀ bb : Nat → Nat, (∀ x ∈ (wf bb).map Prod.fst, x = b ∨ s.heap.size ≤ x) → Z p l e R s m args below meth c D nL G A Q (wr ++ wf bb) lv (cells + mc) (slots + ms) (pc + 3) st) : Z p l e R s m args below meth c D nL G A Q ws lv cells slots pc (.ref b :: st) := by
  intro H locs ls hP hD hS hl T hT X
  have hts := K.2.2.2.2.1
  have hC : [q0].map (fun i => ws[i]?) = ([(b, e0)] : va_W).map some := by simp [he]
  have hrun := va_runI (As := []) (rest := st) (g := F0 m pc ls (.ref b :: st)) (cells := cells) (slots := slots) (locs := locs) (e := e) (R := R) (meth := meth) (below := below) (p := p) ⟨K.1, K.2.1, K.2.2.1, K.2.2.2.1, hts⟩ (hM H.size) (cwI 0 hts hG hw hrc hrs (hts _ hini) (hts _ hlk) (hts _ hins) hy1 hd hR) ⟨z_blind, fun U hU hW => z_preP K.2.2.2.2.2.2.2.2.1 K.2.2.2.2.2.2.2.2.2.1 hP hD hS [q0] rfl hC U hU hW⟩ rfl rfl hl.1 rfl (lv_room hcat) hdg hf
  obtain ⟨v', st₀, t, T', L, h0, X', hL, e1, e2, ⟨hv, ⟨bb, hPb, hDb⟩, hF⟩, go⟩ := hrun T hT X
  cases hv
  obtain ⟨f1, f2⟩ := hF
  rw [h0] at f1 f2 hDb
  have hAb : A b := K.2.2.2.2.2.2.2.2.2.2 b hb
  have hbG : G b := K.2.2.2.2.2.2.2.2.2.1 b hAb
  have hDb' : va_D (va_A [(b, e0)] H.size) (wf bb) := hDb.weaken (fun k q _ h => h.elim (fun ⟨j, e, hj⟩ => Or.inl ⟨0, e0, by
    have hz : j < 1 := (List.getElem?_eq_some_iff.mp hj).1
    rw [show j = 0 by omega] at hj
    cases hj; rfl⟩) Or.inr)
  obtain ⟨hP2, hD2⟩ := va_join (A0 := G) (wc := [(b, e0)]) (wr := wr) (w1 := wf bb) hP hD [q0] isR hC hr hnr hdis (H1 := t.heap) (fun q g1 g2 => f2 q g1 (fun h => g2 (by rw [List.mem_singleton.mp h]; exact Or.inl ⟨0, _, rfl⟩))) (fun q h => h.elim (fun ⟨j, e, hj⟩ => by
    have hz : j < 1 := (List.getElem?_eq_some_iff.mp hj).1
    rw [show j = 0 by omega] at hj
    cases hj; exact hbG) (fun h => K.2.2.2.2.2.2.2.2.1.2.2.1 q (Nat.le_trans hS.1 h))) hPb hDb'
  have hadr : ∀ x ∈ (wf bb).map Prod.fst, x = b ∨ s.heap.size ≤ x := by
    intro x hx
    obtain ⟨q, hq, rfl⟩ := List.mem_map.mp hx
    obtain ⟨k, hk⟩ := List.mem_iff_getElem?.mp hq
    rcases hDb.2 k q hk with ⟨j, e, hj⟩ | h
    · have hz : j < 1 := (List.getElem?_eq_some_iff.mp hj).1
      rw [show j = 0 by omega] at hj
      cases hj; exact Or.inl rfl
    · exact Or.inr (Nat.le_trans hS.1 h)
  obtain ⟨t2, a1, b1⟩ := kk bb hadr T'.heap (locs ++ L) ls (by rw [e1]; exact hP2) hD2 ⟨by rw [e1]; exact Nat.le_trans hS.1 f1, fun q g1 g2 => by
      rw [e1, f2 q (Nat.lt_of_lt_of_le g1 hS.1) (fun h => g2 (by rw [List.mem_singleton.mp h]; exact hAb))]
      exact hS.2.1 q g1 g2, fun q hq => by
      rcases List.mem_append.mp hq with h | h
      · exact hS.2.2 q h
      · rcases hL q h with h | h
        · rw [List.mem_singleton.mp h]; exact hAb
        · exact K.2.2.2.2.2.2.2.2.2.2 _ (Nat.le_trans hS.1 h)⟩ hl T' rfl X'
  exact ⟨t2, go t2 a1, b1⟩

end ZSIM
