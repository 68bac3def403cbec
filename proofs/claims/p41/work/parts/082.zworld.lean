/-! worlds up to the order of their cells -/
theorem w_P {D : va_G} {H : Heap} {ws : va_W} : va_P D vwCl ws H ↔ ∀ q ∈ ws, va_at D vwCl q H :=
  ⟨fun h q hq => (List.mem_iff_getElem?.mp hq).elim fun k hk => h k q hk, fun h k q hk => h q (List.mem_of_getElem? hk)⟩
theorem w_D {A : Nat → Prop} {ws : va_W} : va_D A ws ↔ List.Pairwise (fun a b : Nat × va_E => a.1 ≠ b.1) ws ∧ ∀ q ∈ ws, A q.1 := by
  constructor
  · intro h
    refine ⟨List.pairwise_iff_getElem.mpr (fun i j hi hj hij e => ?_), fun q hq => (List.mem_iff_getElem?.mp hq).elim fun k hk => h.2 k q hk⟩
    exact absurd (h.1 i j _ _ (List.getElem?_eq_getElem hi) (List.getElem?_eq_getElem hj) e) (Nat.ne_of_lt hij)
  · intro h
    refine ⟨fun i j p q hp hq e => ?_, fun k q hk => h.2 q (List.mem_of_getElem? hk)⟩
    obtain ⟨hi, ei⟩ := List.getElem?_eq_some_iff.mp hp
    obtain ⟨hj, ej⟩ := List.getElem?_eq_some_iff.mp hq
    have hw := List.pairwise_iff_getElem.mp h.1
    rcases Nat.lt_trichotomy i j with g | g | g
    · exact absurd (by rw [ei, ej]; exact e) (hw i j hi hj g)
    · exact g
    · exact absurd (by rw [ei, ej]; exact e.symm) (hw j i hj hi g)
theorem w_perm {A : Nat → Prop} {D : va_G} {H : Heap} {ws ws' : va_W} (h : ws.Perm ws') (hP : va_P D vwCl ws H) (hD : va_D A ws) : va_P D vwCl ws' H ∧ va_D A ws' :=
  ⟨w_P.mpr (fun q hq => w_P.mp hP q (h.mem_iff.mpr hq)), w_D.mpr ⟨h.pairwise (w_D.mp hD).1 (fun {x y} g => Ne.symm g), fun q hq => (w_D.mp hD).2 q (h.mem_iff.mpr hq)⟩⟩
theorem w_subl {A : Nat → Prop} {D : va_G} {H : Heap} {ws ws' : va_W} (h : List.Sublist ws' ws) (hP : va_P D vwCl ws H) (hD : va_D A ws) : va_P D vwCl ws' H ∧ va_D A ws' :=
  ⟨w_P.mpr (fun q hq => w_P.mp hP q (h.subset hq)), w_D.mpr ⟨(w_D.mp hD).1.sublist h, fun q hq => (w_D.mp hD).2 q (h.subset hq)⟩⟩
/-- places in worlds of parts -/
theorem ga {X Y : va_W} {n j : Nat} {w : Nat × va_E} (hn : X.length = n) (h : Y[j]? = some w) : (X ++ Y)[j + n]? = some w := by
  rw [List.getElem?_append_right (by omega), show j + n - X.length = j by omega]; exact h
theorem gb {X Y : va_W} {j : Nat} {w : Nat × va_E} (h : X[j]? = some w) : (X ++ Y)[j]? = some w := by
  rw [List.getElem?_append_left (List.getElem?_eq_some_iff.mp h).1]; exact h
theorem sa {X Y : va_W} {n j : Nat} {w : Nat × va_E} (hn : X.length = n) : (X ++ Y).set (j + n) w = X ++ Y.set j w := by
  rw [List.set_append_right _ _ (by omega), show j + n - X.length = j by omega]
theorem sb {X Y : va_W} {j : Nat} {w w' : Nat × va_E} (h : X[j]? = some w) : (X ++ Y).set j w' = X.set j w' ++ Y := by
  rw [List.set_append_left _ _ (List.getElem?_eq_some_iff.mp h).1]
theorem sm_get {L k : Nat} {r : Nat → Nat} {x : Nat → va_E} (h : k < L) : (sm_rows L r x)[k]? = some (r k, x k) := by
  unfold sm_rows
  rw [List.getElem?_map, List.getElem?_range h]; rfl
theorem sm_len {L : Nat} {r : Nat → Nat} {x : Nat → va_E} : (sm_rows L r x).length = L := by
  unfold sm_rows; rw [List.length_map, List.length_range]
theorem sm_congr {L : Nat} {r r' : Nat → Nat} {x x' : Nat → va_E} (h : ∀ k, k < L → r k = r' k ∧ x k = x' k) : sm_rows L r x = sm_rows L r' x' := by
  unfold sm_rows
  refine List.map_congr_left (fun k hk => ?_)
  obtain ⟨h1, h2⟩ := h k (List.mem_range.mp hk)
  rw [h1, h2]
theorem sm_set {L k : Nat} {r : Nat → Nat} {x : Nat → va_E} {e : va_E} (h : k < L) : (sm_rows L r x).set k (r k, e) = sm_rows L r (fun j => if j = k then e else x j) := by
  refine List.ext_getElem? (fun i => ?_)
  by_cases hi : i < L
  · rw [sm_get hi]
    by_cases hk : i = k
    · subst hk
      rw [List.getElem?_set_self (by rw [sm_len]; exact hi), if_pos rfl]
    · rw [List.getElem?_set_ne (Ne.symm hk), sm_get hi, if_neg hk]
  · rw [List.getElem?_eq_none (by rw [List.length_set, sm_len]; omega), List.getElem?_eq_none (by rw [sm_len]; omega)]
theorem sm_push {L q : Nat} {r : Nat → Nat} {x : Nat → va_E} {e : va_E} : sm_rows L r x ++ [(q, e)] = sm_rows (L + 1) (fun i => if i = L then q else r i) (fun i => if i = L then e else x i) := by
  have h : sm_rows (L + 1) (fun i => if i = L then q else r i) (fun i => if i = L then e else x i) = sm_rows L (fun i => if i = L then q else r i) (fun i => if i = L then e else x i) ++ [(q, e)] := by
    unfold sm_rows
    rw [List.range_succ, List.map_append]
    simp
  rw [h]
  exact congrArg (· ++ [(q, e)]) (sm_congr (r' := fun i => if i = L then q else r i) (x' := fun i => if i = L then e else x i) (fun k hk => ⟨(if_neg (Nat.ne_of_lt hk)).symm, (if_neg (Nat.ne_of_lt hk)).symm⟩))
theorem sm_mem {L : Nat} {r : Nat → Nat} {x : Nat → va_E} {w : Nat × va_E} (h : w ∈ sm_rows L r x) : ∃ k, k < L ∧ w = (r k, x k) := by
  unfold sm_rows at h
  obtain ⟨k, hk, e⟩ := List.mem_map.mp h
  exact ⟨k, List.mem_range.mp hk, e.symm⟩
theorem sm_ref_at {L k : Nat} {r : Nat → Nat} (h : k < L) : sm_ref L r k = some (r k) := if_pos h
def up2 (T : Nat → Nat → Bool) (f v : Nat) (b : Bool) : Nat → Nat → Bool := fun g j => if g = f then (if j = v then b else T g j) else T g j
def upR (T : Nat → Nat → Bool) (f : Nat) (F : Nat → Bool) : Nat → Nat → Bool := fun g => if g = f then F else T g
theorem rw1_upd {F : Nat → Bool} {v : Nat} {b : Bool} : upd (rw1 F) v (z_b b) = rw1 (fun j => if j = v then b else F j) := by
  funext j
  by_cases h : j = v
  · subst h; simp [upd, rw1]
  · simp [upd, rw1, h]
theorem up2_row {T : Nat → Nat → Bool} {f v : Nat} {b : Bool} : up2 T f v b f = fun j => if j = v then b else T f j := by
  funext j; simp [up2]
theorem up2_ne {T : Nat → Nat → Bool} {f v g : Nat} {b : Bool} (h : g ≠ f) : up2 T f v b g = T g := by
  funext j; simp [up2, h]
/-- a family of rows of truths, one written -/
theorem sm_up2 {L f v M : Nat} {r : Nat → Nat} {cZ : ClassId} {T : Nat → Nat → Bool} {b : Bool} (h : f < L) : (sm_rows L r (fun g => .inl (cZ, M, .inl (rw1 (T g))))).set f (r f, .inl (cZ, M, .inl (upd (rw1 (T f)) v (z_b b)))) = sm_rows L r (fun g => .inl (cZ, M, .inl (rw1 (up2 T f v b g)))) := by
  rw [sm_set h, rw1_upd]
  refine sm_congr (fun k _ => ⟨rfl, ?_⟩)
  by_cases hk : k = f
  · subst hk; rw [if_pos rfl, up2_row]
  · rw [if_neg hk, up2_ne hk]
/-- a fable's row: its moral, its home, its parent -/
def fr (m h : Nat) (p : Int32) : Nat → Int32
  | 0 => nI m
  | 1 => nI h
  | 2 => p
  | _ => 0
section SIMW
variable {cI cZ cQ cW : ClassId} {u : Nat → Nat} {r : Nat → Nat → Nat} {n : Nat} {ss sl : Int32} {MM HH : Nat → Nat} {PP : Nat → Int32} {BB TB MB AB PB : Nat → Nat → Bool}
/-- the object, its six outer arrays, and their rows: told, morals, bans, passes, fables, beasts -/
def simW (cI cZ cQ cW : ClassId) (u : Nat → Nat) (r : Nat → Nat → Nat) (n : Nat) (ss sl : Int32) (MM HH : Nat → Nat) (PP : Nat → Int32) (BB TB MB AB PB : Nat → Nat → Bool) : va_W :=
  [(u 0, .inr (3, [.int (nI n), .int ss, .int sl, .ref (u 1), .ref (u 2), .ref (u 3), .ref (u 4), .ref (u 5), .ref (u 6)])), (u 1, .inl (cQ, 20, .inr (.inr (.inr (.inr (sm_ref n (r 0))))))), (u 2, .inl (cW, 20, .inr (.inr (.inr (.inr (sm_ref n (r 1))))))), (u 3, .inl (cW, 20, .inr (.inr (.inr (.inr (sm_ref 20 (r 2))))))), (u 4, .inl (cW, 6, .inr (.inr (.inr (.inr (sm_ref 6 (r 3))))))), (u 5, .inl (cW, 6, .inr (.inr (.inr (.inr (sm_ref 6 (r 4))))))), (u 6, .inl (cW, 6, .inr (.inr (.inr (.inr (sm_ref 6 (r 5)))))))] ++
  (sm_rows 20 (r 2) (fun f => .inl (cZ, 6, .inl (rw1 (TB f)))) ++ (sm_rows 6 (r 3) (fun v => .inl (cZ, 10, .inl (rw1 (MB v)))) ++ (sm_rows 6 (r 4) (fun v => .inl (cZ, 12, .inl (rw1 (AB v)))) ++ (sm_rows 6 (r 5) (fun v => .inl (cZ, 6, .inl (rw1 (PB v)))) ++ (sm_rows n (r 0) (fun k => .inl (cI, 3, .inl (fr (MM k) (HH k) (PP k)))) ++ sm_rows n (r 1) (fun k => .inl (cZ, 12, .inl (rw1 (BB k)))))))))
theorem sw_O {f : Nat} (h : f < 20) : (simW cI cZ cQ cW u r n ss sl MM HH PP BB TB MB AB PB)[f + 7]? = some (r 2 f, .inl (cZ, 6, .inl (rw1 (TB f)))) := ga rfl (gb (sm_get h))
theorem sw_M {v : Nat} (h : v < 6) : (simW cI cZ cQ cW u r n ss sl MM HH PP BB TB MB AB PB)[v + 20 + 7]? = some (r 3 v, .inl (cZ, 10, .inl (rw1 (MB v)))) := ga rfl (ga sm_len (gb (sm_get h)))
theorem sw_A {v : Nat} (h : v < 6) : (simW cI cZ cQ cW u r n ss sl MM HH PP BB TB MB AB PB)[v + 6 + 20 + 7]? = some (r 4 v, .inl (cZ, 12, .inl (rw1 (AB v)))) := ga rfl (ga sm_len (ga sm_len (gb (sm_get h))))
theorem sw_P {v : Nat} (h : v < 6) : (simW cI cZ cQ cW u r n ss sl MM HH PP BB TB MB AB PB)[v + 6 + 6 + 20 + 7]? = some (r 5 v, .inl (cZ, 6, .inl (rw1 (PB v)))) := ga rfl (ga sm_len (ga sm_len (ga sm_len (gb (sm_get h)))))
theorem sw_F {k : Nat} (h : k < n) : (simW cI cZ cQ cW u r n ss sl MM HH PP BB TB MB AB PB)[k + 6 + 6 + 6 + 20 + 7]? = some (r 0 k, .inl (cI, 3, .inl (fr (MM k) (HH k) (PP k)))) := ga rfl (ga sm_len (ga sm_len (ga sm_len (ga sm_len (gb (sm_get h))))))
theorem sw_B {k : Nat} (h : k < n) : (simW cI cZ cQ cW u r n ss sl MM HH PP BB TB MB AB PB)[k + n + 6 + 6 + 6 + 20 + 7]? = some (r 1 k, .inl (cZ, 12, .inl (rw1 (BB k)))) := ga rfl (ga sm_len (ga sm_len (ga sm_len (ga sm_len (ga sm_len (sm_get h))))))
theorem ss_O {f v : Nat} {b : Bool} (h : f < 20) : (simW cI cZ cQ cW u r n ss sl MM HH PP BB TB MB AB PB).set (f + 7) (r 2 f, .inl (cZ, 6, .inl (upd (rw1 (TB f)) v (z_b b)))) = simW cI cZ cQ cW u r n ss sl MM HH PP BB (up2 TB f v b) MB AB PB := by
  unfold simW; rw [sa (n := 7) rfl, sb (sm_get h), sm_up2 h]
theorem ss_M {f v : Nat} {b : Bool} (h : f < 6) : (simW cI cZ cQ cW u r n ss sl MM HH PP BB TB MB AB PB).set (f + 20 + 7) (r 3 f, .inl (cZ, 10, .inl (upd (rw1 (MB f)) v (z_b b)))) = simW cI cZ cQ cW u r n ss sl MM HH PP BB TB (up2 MB f v b) AB PB := by
  unfold simW; rw [sa (n := 7) rfl, sa sm_len, sb (sm_get h), sm_up2 h]
theorem ss_A {f v : Nat} {b : Bool} (h : f < 6) : (simW cI cZ cQ cW u r n ss sl MM HH PP BB TB MB AB PB).set (f + 6 + 20 + 7) (r 4 f, .inl (cZ, 12, .inl (upd (rw1 (AB f)) v (z_b b)))) = simW cI cZ cQ cW u r n ss sl MM HH PP BB TB MB (up2 AB f v b) PB := by
  unfold simW; rw [sa (n := 7) rfl, sa sm_len, sa sm_len, sb (sm_get h), sm_up2 h]
theorem ss_P {f v : Nat} {b : Bool} (h : f < 6) : (simW cI cZ cQ cW u r n ss sl MM HH PP BB TB MB AB PB).set (f + 6 + 6 + 20 + 7) (r 5 f, .inl (cZ, 6, .inl (upd (rw1 (PB f)) v (z_b b)))) = simW cI cZ cQ cW u r n ss sl MM HH PP BB TB MB AB (up2 PB f v b) := by
  unfold simW; rw [sa (n := 7) rfl, sa sm_len, sa sm_len, sa sm_len, sb (sm_get h), sm_up2 h]
theorem ss_B {f v : Nat} {b : Bool} (h : f < n) : (simW cI cZ cQ cW u r n ss sl MM HH PP BB TB MB AB PB).set (f + n + 6 + 6 + 6 + 20 + 7) (r 1 f, .inl (cZ, 12, .inl (upd (rw1 (BB f)) v (z_b b)))) = simW cI cZ cQ cW u r n ss sl MM HH PP (up2 BB f v b) TB MB AB PB := by
  unfold simW; rw [sa (n := 7) rfl, sa sm_len, sa sm_len, sa sm_len, sa sm_len, sa sm_len, sm_up2 h]
end SIMW
theorem sw_len {cI cZ cQ cW : ClassId} {u : Nat → Nat} {r : Nat → Nat → Nat} {n : Nat} {ss sl : Int32} {MM HH : Nat → Nat} {PP : Nat → Int32} {BB TB MB AB PB : Nat → Nat → Bool} : (simW cI cZ cQ cW u r n ss sl MM HH PP BB TB MB AB PB).length = n + n + 45 := by
  unfold simW
  simp only [List.length_append, sm_len, List.length_cons, List.length_nil]
  omega
section GRID
variable {cW cZ : ClassId} {q L M : Nat} {r : Nat → Nat} {T : Nat → Nat → Bool}
theorem gr_o : (gridW cW cZ q L M r T)[0]? = some (q, .inl (cW, L, .inr (.inr (.inr (.inr (sm_ref L r)))))) := rfl
theorem gr_r {g : Nat} (h : g < L) : (gridW cW cZ q L M r T)[g + 1]? = some (r g, .inl (cZ, M, .inl (rw1 (T g)))) := sm_get h
theorem gr_set {g v : Nat} {b : Bool} (h : g < L) : (gridW cW cZ q L M r T).set (g + 1) (r g, .inl (cZ, M, .inl (upd (rw1 (T g)) v (z_b b)))) = gridW cW cZ q L M r (up2 T g v b) := by
  unfold gridW
  rw [List.set_cons_succ, sm_up2 h]
end GRID
/-- two orders of the same cells -/
theorem w_count {a b : va_W} (h : ∀ (inst : DecidableEq (Nat × va_E)) (x : Nat × va_E), a.count x = b.count x) : a.Perm b := by
  haveI i : DecidableEq (Nat × va_E) := fun a b => Classical.propDecidable (a = b)
  exact List.perm_iff_count.mpr (fun x => h i x)
/-! the simulation's cells, rearranged -/
def upA {α : Type} (f : Nat → α) (k : Nat) (x : α) : Nat → α := fun i => if i = k then x else f i
section SIMW2
variable {cI cZ cQ cW : ClassId} {u : Nat → Nat} {r : Nat → Nat → Nat} {n : Nat} {ss sl : Int32} {MM HH : Nat → Nat} {PP : Nat → Int32} {BB TB MB AB PB : Nat → Nat → Bool}
/-- another array of what is told -/
theorem sw_told {q : Nat} {rr : Nat → Nat} {T : Nat → Nat → Bool} : ((simW cI cZ cQ cW u r n ss sl MM HH PP BB TB MB AB PB ++ gridW cW cZ q 20 6 rr T).set 0 (u 0, .inr (3, [.int (nI n), .int ss, .int sl, .ref (u 1), .ref (u 2), .ref q, .ref (u 4), .ref (u 5), .ref (u 6)]))).Perm ((u 3, .inl (cW, 20, .inr (.inr (.inr (.inr (sm_ref 20 (r 2))))))) :: (sm_rows 20 (r 2) (fun f => .inl (cZ, 6, .inl (rw1 (TB f)))) ++ simW cI cZ cQ cW (upA u 3 q) (upA r 2 rr) n ss sl MM HH PP BB T MB AB PB)) := by
  refine w_count (fun _ x => ?_)
  simp only [simW, gridW, upA, List.cons_append, List.nil_append, List.set_cons_zero, List.count_append, List.count_cons, List.count_nil, Nat.reduceEqDiff, ↓reduceIte, if_true, if_false]
  omega
/-- at the start: the object, two empty arrays, four arrays of arrays -/
def u0 (a q1 q2 q3 q4 q5 q6 : Nat) : Nat → Nat
  | 0 => a
  | 1 => q1
  | 2 => q2
  | 3 => q3
  | 4 => q4
  | 5 => q5
  | _ => q6
def r0 (r3 r4 r5 r6 : Nat → Nat) : Nat → Nat → Nat
  | 0 => fun _ => 0
  | 1 => fun _ => 0
  | 2 => r3
  | 3 => r4
  | 4 => r5
  | _ => r6
theorem sm_ref0 (r : Nat → Nat) : sm_ref 0 r = fun _ => none := rfl
theorem sm_rows0 (r : Nat → Nat) (x : Nat → va_E) : sm_rows 0 r x = [] := rfl
theorem sw_init {a q1 q2 q3 q4 q5 q6 : Nat} {r3 r4 r5 r6 : Nat → Nat} : ([(a, .inr (3, [.int 0, .int 0, .int 0, .ref q1, .ref q2, .ref q3, .ref q4, .ref q5, .ref q6])), (q1, .inl (cQ, 20, .inr (.inr (.inr (.inr (fun _ => none)))))), (q2, .inl (cW, 20, .inr (.inr (.inr (.inr (fun _ => none))))))] ++ gridW cW cZ q3 20 6 r3 (fun _ _ => false) ++ gridW cW cZ q4 6 10 r4 (fun _ _ => false) ++ gridW cW cZ q5 6 12 r5 (fun _ _ => false) ++ gridW cW cZ q6 6 6 r6 (fun _ _ => false) : va_W).Perm (simW cI cZ cQ cW (u0 a q1 q2 q3 q4 q5 q6) (r0 r3 r4 r5 r6) 0 0 0 (fun _ => 0) (fun _ => 0) (fun _ => 0) (fun _ _ => false) (fun _ _ => false) (fun _ _ => false) (fun _ _ => false) (fun _ _ => false)) := by
  refine w_count (fun _ x => ?_)
  simp only [simW, gridW, u0, r0, sm_ref0, sm_rows0, List.append_assoc, List.cons_append, List.nil_append, List.append_nil, List.count_append, List.count_cons, List.count_nil, nI_0]
  omega
end SIMW2
