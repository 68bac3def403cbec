section ZAUX2
variable {p : Program} {l : Launch} {e : Env} {R : Room} {s : State} {m : MethodId} {args : Array Value} {below : List Frame} {meth : Method} {c : Code} {D : va_G} {nL : Nat} {G A : Nat → Prop} {Q : State → Prop} {ws : va_W} {lv : List (Nat × Value)} {cells slots pc : Nat} {st : List Value} {cc : ByteArray} {ret : Option FieldType} {Ts : List Cond} {own : String} {tys : List (ClassId × FieldType)}
/-- System.arraycopy between two arrays of ints, all of it -/
theorem z_copy (K : z_K p l s m args meth c G A D tys cc nL ret Ts own) {index : Nat} (hlink : Cond.methodLink own index arraycopyName ∈ Ts) (hnat : Cond.native arraycopyName ∈ Ts) (hstat : Cond.static arraycopyName ∈ Ts) (hini : Cond.initialized "java/lang/System" ∈ Ts)
    (q0 q1 t0 : Nat) {a0 a : Nat} {cA : ClassId} {N : Nat} {f g : Nat → Int32} (ha0 : ws[q0]? = some (a0, .inl (cA, N, .inl f))) (ha1 : ws[q1]? = some (a, .inl (cA, N, .inl g))) (ht : tys[t0]? = some (cA, .int)) {n : Int32} (hn : n = nI N) (hN : N < 2 ^ 31) (hdg : decode cc pc = .ok (.invokestatic index, 3)) (hA : A a)
    {ws' : va_W} (hws : ws.set q1 (a, .inl (cA, N, .inl (va_cpy f g 0 0 N))) = ws') {rest : List Value} (hR1 : 1 ≤ R.frames) (hR2 : (rest.map fun v => v.category).sum + (nativeFrameWords "java/lang/System" "arraycopy" 5 + 11) ≤ R.locals) (kk : Z p l e R s m args below meth c D nL G A Q ws' lv cells slots (pc + 3) rest) : Z p l e R s m args below meth c D nL G A Q ws lv cells slots pc (.int n :: .int 0 :: .ref a :: .int 0 :: .ref a0 :: rest) := by
  intro H locs ls hP hD hS hl T hT X
  subst hn hws
  have e0 : (0 : Int32).toNatClampNeg = 0 := by decide
  have eN : (nI N).toNatClampNeg = N := nI_clamp hN
  have iN : (nI N).toInt = (N : Int) := nI_toInt hN
  have z0 : ¬ (0 : Int32) < 0 := by decide
  have i0 : (0 : Int32).toInt = 0 := by decide
  have hc0 : H[a0]? = some (vp_cell cA (N, .inl f)) := hP q0 _ ha0
  have hc1 : H[a]? = some (vp_cell cA (N, .inl g)) := hP q1 _ ha1
  obtain ⟨-, k0, hk0, cm0, hkk0⟩ := (K.2.2.2.2.2.1.2 t0 _ ht).1 N (fun j => .int (f j))
  obtain ⟨-, k1, hk1, cm1, hkk1⟩ := (K.2.2.2.2.2.1.2 t0 _ ht).1 N (fun j => .int (g j))
  have hts := K.2.2.2.2.1
  obtain ⟨vm', X', step⟩ := X.arraycopy K.1 K.2.2.2.1 (hts _ hlink) (hts _ hnat) (hts _ hstat) (hts _ hini) (src := a0) (dst := a) (cs := vp_cell cA (N, .inl f)) (cd := vp_cell cA (N, .inl g)) (srcPos := 0) (destPos := 0) (n := nI N) (by rw [hT]; exact hc0) (by rw [hT]; exact hc1)
    (fun _ h => by cases h) (fun _ h => by cases h) (fun h => by cases h) (fun h => by cases h) hk0 hk1 hkk0 hkk1 (by simp [refKind]) z0 z0 (nI_pos hN)
    (by rw [i0, iN]; show ¬ _ > ((arrV cA N (fun j => .int (f j))).slots.size : Int); rw [arrV_size]; omega)
    (by rw [i0, iN]; show ¬ _ > ((arrV cA N (fun j => .int (g j))).slots.size : Int); rw [arrV_size]; omega)
    (fun vm₁ _ i hi => by
      rw [eN] at hi
      have e : (vp_cell cA (N, .inl f)).slots.getD ((0 : Int32).toNatClampNeg + i) .null = .int (f ((0 : Int32).toNatClampNeg + i)) := by
        show (arrV cA N (fun j => .int (f j))).slots.getD _ _ = _
        rw [Array.getD_eq_getD_getElem?, arrV_read _ _ (by rw [e0]; omega)]
        rfl
      rw [e]
      exact ⟨rfl, trivial⟩)
    (g := F0 m pc ls (.int (nI N) :: .int 0 :: .ref a :: .int 0 :: .ref a0 :: rest)) rfl (by rw [K.2.2.1]; exact hl.1) (rest := rest) rfl (by rw [K.2.1]; exact hdg) hR1 (by show 2 * 0 + _ + _ ≤ _; omega)
  have e1 : copied (vp_cell cA (N, .inl f)) (vp_cell cA (N, .inl g)) 0 0 (nI N) = vp_cell cA (N, .inl (va_cpy f g 0 0 N)) := by
    have h9 : copied (vp_cell cA (N, .inl f)) (vp_cell cA (N, .inl g)) 0 0 (nI N) = vp_cell cA (N, .inl (va_cpy f g (0 : Int32).toNatClampNeg (0 : Int32).toNatClampNeg (nI N).toNatClampNeg)) := va_copied (fun z => .int z) cA cA f g (by rw [e0, eN]; omega)
    rw [e0, eN] at h9
    exact h9
  rw [e1] at X' step
  have hlt : a < H.size := (Array.getElem?_eq_some_iff.mp hc1).1
  have hheap : ((T.setVm vm').setCell a (vp_cell cA (N, .inl (va_cpy f g 0 0 N)))).heap = H.setIfInBounds a (vp_cell cA (N, .inl (va_cpy f g 0 0 N))) := by rw [← hT]; rfl
  have oq : ∀ q : Nat, q ≠ a → (H.setIfInBounds a (vp_cell cA (N, .inl (va_cpy f g 0 0 N))))[q]? = H[q]? := fun q hq => by simp [Array.getElem?_setIfInBounds, Ne.symm hq]
  obtain ⟨t, a1, b1⟩ := kk _ _ ls (hP.set hD ha1 (show (H.setIfInBounds a _)[a]? = some _ by simp [Array.getElem?_setIfInBounds, hlt]) oq) (hD.set ha1) ⟨by simp; exact hS.1, fun q g1 g2 => by
      rw [oq q (fun e => g2 (by rw [e]; exact hA))]
      exact hS.2.1 q g1 g2, fun q hq => by
      rcases List.mem_append.mp hq with h | h
      · exact hS.2.2 q h
      · obtain ⟨z, -, hz⟩ := List.mem_map.mp h
        rw [← hz]
        exact hA⟩ hl _ hheap X'
  exact ⟨t, step t a1, b1⟩
/-- a loop without a counter: a measure falls -/
theorem z_rec {σ : Type} {wsf : σ → va_W} {lvf : σ → List (Nat × Value)} (μ : σ → Nat) (inv : σ → Prop) (x0 : σ) (hw : wsf x0 = ws) (hl : lvf x0 = lv) (hi : inv x0) (hs : ∀ x, (∀ y, μ y < μ x → inv y → Z p l e R s m args below meth c D nL G A Q (wsf y) (lvf y) cells slots pc st) → inv x → Z p l e R s m args below meth c D nL G A Q (wsf x) (lvf x) cells slots pc st) : Z p l e R s m args below meth c D nL G A Q ws lv cells slots pc st := by
  subst hw hl
  have key : ∀ d x, μ x < d → inv x → Z p l e R s m args below meth c D nL G A Q (wsf x) (lvf x) cells slots pc st := by
    intro d
    induction d with
    | zero => exact fun x h => absurd h (Nat.not_lt_zero _)
    | succ d ih => exact fun x h hi => hs x (fun y hy hiy => ih y (by omega) hiy) hi
  exact key _ x0 (Nat.lt_succ_self _) hi
theorem z_cmpGN (K : z_K p l s m args meth c G A D tys cc nL ret Ts own) {off : Int} {x y : Int32} (tgt a b : Nat) (hdg : decode cc pc = .ok (.if_icmp .gt off, 3)) (ht : (pc : Int) + off = (tgt : Int)) (hx : x = nI a) (hy : y = nI b) (ha : a < 2 ^ 31) (hb : b < 2 ^ 31) (kt : b < a → Z p l e R s m args below meth c D nL G A Q ws lv cells slots tgt st) (kf : a ≤ b → Z p l e R s m args below meth c D nL G A Q ws lv cells slots (pc + 3) st) : Z p l e R s m args below meth c D nL G A Q ws lv cells slots pc (.int y :: .int x :: st) := by
  subst hx hy
  exact z_icmp_gt K tgt hdg ht (fun h => kt ((nI_ltI hb ha).mp h)) (fun h => kf (Nat.le_of_not_lt (fun q => h ((nI_ltI hb ha).mpr q))))
theorem z_lvE {lv' : List (Nat × Value)} (h : lv = lv') (kk : Z p l e R s m args below meth c D nL G A Q ws lv' cells slots pc st) : Z p l e R s m args below meth c D nL G A Q ws lv cells slots pc st := by rw [h]; exact kk
theorem z_dconst0 (K : z_K p l s m args meth c G A D tys cc nL ret Ts own) (hdg : decode cc pc = .ok (.dconst 0, 1)) (kk : Z p l e R s m args below meth c D nL G A Q ws lv cells slots (pc + 1) (.double 0 :: st)) : Z p l e R s m args below meth c D nL G A Q ws lv cells slots pc st := fun H locs ls hP hD hS hl => lv_dconst0 K.1 K.2.1 hdg (kk H locs ls hP hD hS hl)

end ZAUX2
/-! what the reference's methods compute -/
def inI (x lo hi : Int32) : Bool := !decide (x < lo) && !decide (hi < x)
theorem inI_fin (w : Int32) {n : Nat} (hn : n < 2 ^ 31) : inI w 0 (nI n - 1) = fin w n := by
  by_cases h : w < 0
  · simp [inI, fin, h]
  · obtain ⟨j, hj, rfl⟩ := nI_of h
    simp only [inI, fin, h, decide_false, Bool.not_false, Bool.true_and, decide_true]
    cases n with
    | zero =>
      have h1 : nI 0 - 1 = -1 := by decide
      have h2 : (-1 : Int32) < nI j := by
        have : ((-1 : Int32)).toInt = -1 := by decide
        exact Int32.lt_iff_toInt_lt.mpr (by rw [this, nI_toInt hj]; omega)
      have h3 : ¬ nI j < nI 0 := fun g => absurd ((nI_ltI hj (by omega)).mp g) (by omega)
      rw [h1]; simp [h2, h3]
    | succ n =>
      rw [nI_pred]
      by_cases g : j < n + 1
      · have h2 : ¬ nI n < nI j := fun q => absurd ((nI_ltI (by omega) hj).mp q) (by omega)
        have h3 : nI j < nI (n + 1) := (nI_ltI hj hn).mpr g
        simp [h2, h3]
      · have h2 : nI n < nI j := (nI_ltI (by omega) hj).mpr (by omega)
        have h3 : ¬ nI j < nI (n + 1) := fun q => g ((nI_ltI hj hn).mp q)
        simp [h2, h3]
theorem inI_lit (w : Int32) {n : Nat} {m : Int32} (hn : n < 2 ^ 31) (hm : m = nI n - 1) : inI w 0 m = fin w n := by rw [hm, inI_fin w hn]
theorem inI_sea (w m : Int32) : inI w 1 m = sea w m := by
  by_cases h : w < 1
  · simp [inI, sea, h]
  · by_cases g : m < w
    · have : ¬ w ≤ m := Int32.not_le.mpr g
      simp [inI, sea, h, g, this]
    · have : w ≤ m := Int32.not_lt.mp g
      simp [inI, sea, h, g, this]
theorem and1 (y : Int32) : y &&& 1 = 0 ∨ y &&& 1 = 1 := by
  obtain ⟨j, hj, h⟩ := pk_andE y (m := 1) 1 rfl
  rcases (show j = 0 ∨ j = 1 by omega) with rfl | rfl
  · exact Or.inl h
  · exact Or.inr h
theorem hs1 {x n : Int32} : hs x n = true ↔ (x >>> (n &&& 31)) &&& 1 = 1 := by
  simp only [hs, decide_eq_true_eq]
  rcases and1 (x >>> (n &&& 31)) with h | h
  · rw [h]; decide
  · rw [h]; decide
def chS (fp : Nat → Int32) (f : Nat) : Nat → Int32 := z_fold (fun k a => a + (if fp k = nI f then 1 else 0)) 0
theorem chS_succ (fp : Nat → Int32) (f k : Nat) : chS fp f (k + 1) = chS fp f k + (if fp k = nI f then 1 else 0) := rfl
def plS (lt : Nat → Int32) (f : Nat) : Nat → Int32 := z_fold (fun v a => a + z_b (hs (lt v) (nI f))) 0
theorem plS_succ (lt : Nat → Int32) (f v : Nat) : plS lt f (v + 1) = plS lt f v + z_b (hs (lt v) (nI f)) := rfl
def allM (lt : Nat → Int32) : Nat → Int32 := z_fold (fun v a => a + pc (lt v)) 0
/-- the first that has it -/
def fstF (p : Nat → Bool) : Nat → Int32
  | 0 => -1
  | k + 1 => if fstF p k = -1 then (if p k then nI k else -1) else fstF p k
theorem fstF_stop {p : Nat → Bool} {k : Nat} (h0 : fstF p k = -1) (hp : p k = true) (hk : k < 2 ^ 31) : ∀ {n : Nat}, k < n → fstF p n = nI k := by
  intro n hn
  have hne : ¬ nI k = -1 := fun e => by
    have h1 := nI_pos hk
    rw [e] at h1
    exact h1 (by decide)
  induction n with
  | zero => exact absurd hn (Nat.not_lt_zero _)
  | succ n ih =>
    rcases Nat.lt_or_ge k n with g | g
    · rw [fstF, ih g, if_neg hne]
    · have : n = k := by omega
      subst this
      rw [fstF, if_pos h0, if_pos hp]
theorem fstF_next {p : Nat → Bool} {k : Nat} (h0 : fstF p k = -1) (hp : p k = false) : fstF p (k + 1) = -1 := by
  rw [fstF, if_pos h0, if_neg (by rw [hp]; decide)]
def varP (lm lb fm fb fp : Nat → Int32) (f v : Nat) (k : Nat) : Bool := decide (fp k = nI f) && !ban lm lb fm fb k v
def comS (lm lb fm fb fp : Nat → Int32) (n f v : Nat) : Int32 := if ban lm lb fm fb f v then (if hs (lm v) (fm f) then -1 else fstF (varP lm lb fm fb fp f v) n) else nI f
/-- a season of the reference: first step -/
def s1I (lm lb fm fb : Nat → Int32) (v : Nat) (x : (Nat → Int32) × Int32) : Nat → (Nat → Int32) × Int32 := z_fold (fun f x => if hs (x.1 v) (nI f) then (if ban lm lb fm fb f v then (upd x.1 v (x.1 v &&& ((1 <<< (nI f &&& 31)) ^^^ (-1))), x.2 + 1) else x) else x) x
theorem s1I_succ (lm lb fm fb : Nat → Int32) (v : Nat) (x : (Nat → Int32) × Int32) (f : Nat) : s1I lm lb fm fb v x (f + 1) = if hs ((s1I lm lb fm fb v x f).1 v) (nI f) then (if ban lm lb fm fb f v then (upd (s1I lm lb fm fb v x f).1 v ((s1I lm lb fm fb v x f).1 v &&& ((1 <<< (nI f &&& 31)) ^^^ (-1))), (s1I lm lb fm fb v x f).2 + 1) else s1I lm lb fm fb v x f) else s1I lm lb fm fb v x f := rfl
def s1O (lm lb fm fb : Nat → Int32) (n : Nat) (lt nx : Nat → Int32) : Nat → ((Nat → Int32) × Int32) × (Nat → Int32) := z_fold (fun v y => (s1I lm lb fm fb v y.1 n, upd y.2 v ((s1I lm lb fm fb v y.1 n).1 v))) ((lt, 0), nx)
/-- second step -/
def s2F (lm lb fm fb fp : Nat → Int32) (n : Nat) (lt : Nat → Int32) (v to : Nat) (nx : Nat → Int32) : Nat → Nat → Int32 := z_fold (fun f a => if hs (lt v) (nI f) then (if comS lm lb fm fb fp n f to = -1 then a else upd a to (a to ||| (1 <<< (comS lm lb fm fb fp n f to &&& 31)))) else a) nx
theorem s2F_succ (lm lb fm fb fp : Nat → Int32) (n : Nat) (lt : Nat → Int32) (v to : Nat) (nx : Nat → Int32) (f : Nat) : s2F lm lb fm fb fp n lt v to nx (f + 1) = if hs (lt v) (nI f) then (if comS lm lb fm fb fp n f to = -1 then s2F lm lb fm fb fp n lt v to nx f else upd (s2F lm lb fm fb fp n lt v to nx f) to (s2F lm lb fm fb fp n lt v to nx f to ||| (1 <<< (comS lm lb fm fb fp n f to &&& 31)))) else s2F lm lb fm fb fp n lt v to nx f := rfl
def s2T (lw lm lb fm fb fp : Nat → Int32) (n : Nat) (lt : Nat → Int32) (v : Nat) (nx : Nat → Int32) : Nat → Nat → Int32 := z_fold (fun to a => if hs (lw v) (nI to) then s2F lm lb fm fb fp n lt v to a n else a) nx
theorem s2T_succ (lw lm lb fm fb fp : Nat → Int32) (n : Nat) (lt : Nat → Int32) (v : Nat) (nx : Nat → Int32) (to : Nat) : s2T lw lm lb fm fb fp n lt v nx (to + 1) = if hs (lw v) (nI to) then s2F lm lb fm fb fp n lt v to (s2T lw lm lb fm fb fp n lt v nx to) n else s2T lw lm lb fm fb fp n lt v nx to := rfl
def s2V (lw lm lb fm fb fp : Nat → Int32) (n : Nat) (lt nx : Nat → Int32) : Nat → Nat → Int32 := z_fold (fun v a => s2T lw lm lb fm fb fp n lt v a 6) nx
def seaN (lw lm lb fm fb fp : Nat → Int32) (n : Nat) (lt nx : Nat → Int32) : Nat → Int32 := s2V lw lm lb fm fb fp n (s1O lm lb fm fb n lt nx 6).1.1 (s1O lm lb fm fb n lt nx 6).2 6
def seaL (lw lm lb fm fb fp : Nat → Int32) (n : Nat) (lt nx : Nat → Int32) : Nat → Int32 := va_cpy (seaN lw lm lb fm fb fp n lt nx) (s1O lm lb fm fb n lt nx 6).1.1 0 0 6
def seaG (lm lb fm fb : Nat → Int32) (n : Nat) (lt nx : Nat → Int32) : Int32 := (s1O lm lb fm fb n lt nx 6).1.2
/-- seasons of the reference: told, next, silenced -/
def seaS (lw lm lb fm fb fp : Nat → Int32) (n : Nat) (x : (Nat → Int32) × (Nat → Int32) × Int32) : Nat → (Nat → Int32) × (Nat → Int32) × Int32 := z_fold (fun _ x => (seaL lw lm lb fm fb fp n x.1 x.2.1, seaN lw lm lb fm fb fp n x.1 x.2.1, x.2.2 + seaG lm lb fm fb n x.1 x.2.1)) x
theorem s1I_0 (lm lb fm fb : Nat → Int32) (v : Nat) (x : (Nat → Int32) × Int32) : s1I lm lb fm fb v x 0 = x := rfl
theorem s1O_0 (lm lb fm fb : Nat → Int32) (n : Nat) (lt nx : Nat → Int32) : s1O lm lb fm fb n lt nx 0 = ((lt, 0), nx) := rfl
theorem s1O_succ (lm lb fm fb : Nat → Int32) (n : Nat) (lt nx : Nat → Int32) (v : Nat) : s1O lm lb fm fb n lt nx (v + 1) = (s1I lm lb fm fb v (s1O lm lb fm fb n lt nx v).1 n, upd (s1O lm lb fm fb n lt nx v).2 v ((s1I lm lb fm fb v (s1O lm lb fm fb n lt nx v).1 n).1 v)) := rfl
theorem s2F_0 (lm lb fm fb fp : Nat → Int32) (n : Nat) (lt : Nat → Int32) (v to : Nat) (nx : Nat → Int32) : s2F lm lb fm fb fp n lt v to nx 0 = nx := rfl
theorem s2T_0 (lw lm lb fm fb fp : Nat → Int32) (n : Nat) (lt : Nat → Int32) (v : Nat) (nx : Nat → Int32) : s2T lw lm lb fm fb fp n lt v nx 0 = nx := rfl
theorem s2V_0 (lw lm lb fm fb fp : Nat → Int32) (n : Nat) (lt nx : Nat → Int32) : s2V lw lm lb fm fb fp n lt nx 0 = nx := rfl
theorem s2V_succ (lw lm lb fm fb fp : Nat → Int32) (n : Nat) (lt nx : Nat → Int32) (v : Nat) : s2V lw lm lb fm fb fp n lt nx (v + 1) = s2T lw lm lb fm fb fp n lt v (s2V lw lm lb fm fb fp n lt nx v) 6 := rfl
theorem seaS_0 (lw lm lb fm fb fp : Nat → Int32) (n : Nat) (x : (Nat → Int32) × (Nat → Int32) × Int32) : seaS lw lm lb fm fb fp n x 0 = x := rfl
theorem seaS_succ (lw lm lb fm fb fp : Nat → Int32) (n : Nat) (x : (Nat → Int32) × (Nat → Int32) × Int32) (k : Nat) : seaS lw lm lb fm fb fp n x (k + 1) = (seaL lw lm lb fm fb fp n (seaS lw lm lb fm fb fp n x k).1 (seaS lw lm lb fm fb fp n x k).2.1, seaN lw lm lb fm fb fp n (seaS lw lm lb fm fb fp n x k).1 (seaS lw lm lb fm fb fp n x k).2.1, (seaS lw lm lb fm fb fp n x k).2.2 + seaG lm lb fm fb n (seaS lw lm lb fm fb fp n x k).1 (seaS lw lm lb fm fb fp n x k).2.1) := rfl
/-- the reference's calls -/
def cdABm (w x : Int32) (n : Nat) (fb fp : Nat → Int32) : Nat := if fin w n && fin x 12 then (if hs (fb (ix w)) x then 2 else if chS fp (ix w) n ≤ 0 then 0 else 2) else 1
def anS (fp : Nat → Int32) (f : Nat) : Nat → Int32 × Int32 := z_fold (fun _ x => if x.2 = -1 then x else (x.1 ||| (1 <<< (x.2 &&& 31)), fp (ix x.2))) (0, nI f)
theorem anS_0 (fp : Nat → Int32) (f : Nat) : anS fp f 0 = (0, nI f) := rfl
theorem anS_succ (fp : Nat → Int32) (f k : Nat) : anS fp f (k + 1) = if (anS fp f k).2 = -1 then anS fp f k else ((anS fp f k).1 ||| (1 <<< ((anS fp f k).2 &&& 31)), fp (ix (anS fp f k).2)) := rfl
theorem anS_stop {fp : Nat → Int32} {f k : Nat} (h : (anS fp f k).2 = -1) : ∀ {q : Nat}, k ≤ q → anS fp f k = anS fp f q := by
  intro q hq
  induction q with
  | zero => rw [show k = 0 by omega]
  | succ q ih =>
    rcases Nat.lt_or_ge q k with g | g
    · rw [show k = q + 1 by omega]
    · rw [anS_succ, ← ih g, if_pos h]
theorem nI_ne_m1 {j : Nat} (h : j < 2 ^ 31) : ¬ nI j = -1 := fun e => by
  have h1 := nI_pos h
  rw [e] at h1
  exact h1 (by decide)
theorem gi_sub (n : Nat) : nI n - 1 = gi n := by
  rw [← gi_dec n, Int32.sub_eq_add_neg]; rfl
def unM (lw lm lb fm fb fp : Nat → Int32) (n f v : Nat) (x : (Nat → Int32) × (Nat → Int32)) : Nat → ((Nat → Int32) × (Nat → Int32)) × Int32 := z_fold (fun k x => if hs (x.1.1 v) (nI f) then x else ((seaL lw lm lb fm fb fp n x.1.1 x.1.2, seaN lw lm lb fm fb fp n x.1.1 x.1.2), nI (k + 1))) (x, nI 0)
theorem unM_0 (lw lm lb fm fb fp : Nat → Int32) (n f v : Nat) (x : (Nat → Int32) × (Nat → Int32)) : unM lw lm lb fm fb fp n f v x 0 = (x, nI 0) := rfl
theorem unM_succ (lw lm lb fm fb fp : Nat → Int32) (n f v : Nat) (x : (Nat → Int32) × (Nat → Int32)) (k : Nat) : unM lw lm lb fm fb fp n f v x (k + 1) = if hs ((unM lw lm lb fm fb fp n f v x k).1.1 v) (nI f) then unM lw lm lb fm fb fp n f v x k else ((seaL lw lm lb fm fb fp n (unM lw lm lb fm fb fp n f v x k).1.1 (unM lw lm lb fm fb fp n f v x k).1.2, seaN lw lm lb fm fb fp n (unM lw lm lb fm fb fp n f v x k).1.1 (unM lw lm lb fm fb fp n f v x k).1.2), nI (k + 1)) := rfl
theorem unM_stop {lw lm lb fm fb fp : Nat → Int32} {n f v : Nat} {x : (Nat → Int32) × (Nat → Int32)} {k : Nat} (h : hs ((unM lw lm lb fm fb fp n f v x k).1.1 v) (nI f) = true) : ∀ {q : Nat}, k ≤ q → unM lw lm lb fm fb fp n f v x k = unM lw lm lb fm fb fp n f v x q := by
  intro q hq
  induction q with
  | zero => rw [show k = 0 by omega]
  | succ q ih =>
    rcases Nat.lt_or_ge q k with g | g
    · rw [show k = q + 1 by omega]
    · rw [unM_succ, ← ih g, if_pos h]
def unR (y : Int32) : Int32 := if y ≤ 40 then y else -1
def kinM (a b : Int32) (n : Nat) : Int32 := if grF (a &&& b) n = -1 then -1 else pc (a ^^^ b)
/-- after(seasons) -/
def aftT (lw lm lb fm fb fp : Nat → Int32) (n q : Nat) (lt nx : Nat → Int32) : Int32 := allM (seaS lw lm lb fm fb fp n (lt, nx, 0) q).1 6
def favX (lt fm fb : Nat → Int32) (n : Nat) (b : Bool) (m : Nat) : Nat → Int32 := z_fold (fun f a => if (if b then decide (fm f = nI m) else hs (fb f) (nI m)) then a + plS lt f 6 else a) 0
theorem favX_succ (lt fm fb : Nat → Int32) (n : Nat) (b : Bool) (m f : Nat) : favX lt fm fb n b m (f + 1) = if (if b then decide (fm f = nI m) else hs (fb f) (nI m)) then favX lt fm fb n b m f + plS lt f 6 else favX lt fm fb n b m f := rfl
def favY (lt fm fb : Nat → Int32) (n : Nat) (b : Bool) : Nat → Int32 × Int32 := z_fold (fun m x => if x.2 < favX lt fm fb n b m n then (nI m, favX lt fm fb n b m n) else x) (-1, 0)
theorem favY_0 (lt fm fb : Nat → Int32) (n : Nat) (b : Bool) : favY lt fm fb n b 0 = (-1, 0) := rfl
theorem favY_succ (lt fm fb : Nat → Int32) (n : Nat) (b : Bool) (m : Nat) : favY lt fm fb n b (m + 1) = if (favY lt fm fb n b m).2 < favX lt fm fb n b m n then (nI m, favX lt fm fb n b m n) else favY lt fm fb n b m := rfl
def awS (lm lb fm fb : Nat → Int32) (v : Nat) : Nat → Int32 := z_fold (fun f a => a + (if ban lm lb fm fb f v then 0 else 1)) 0
theorem awS_succ (lm lb fm fb : Nat → Int32) (v f : Nat) : awS lm lb fm fb v (f + 1) = awS lm lb fm fb v f + (if ban lm lb fm fb f v then 0 else 1) := rfl
def fwM (fm : Nat → Int32) (w : Int32) : Nat → Int32 := z_fold (fun f a => a + (if fm f = w then 1 else 0)) 0
theorem fwM_succ (fm : Nat → Int32) (w : Int32) (f : Nat) : fwM fm w (f + 1) = fwM fm w f + (if fm f = w then 1 else 0) := rfl
def fwB (fb : Nat → Int32) (w : Int32) : Nat → Int32 := z_fold (fun f a => a + z_b (hs (fb f) w)) 0
theorem fwB_succ (fb : Nat → Int32) (w : Int32) (f : Nat) : fwB fb w (f + 1) = fwB fb w f + z_b (hs (fb f) w) := rfl
