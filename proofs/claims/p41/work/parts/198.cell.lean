section ZSLD
variable {p : Program} {l : Launch} {e : Env} {R : Room} {s : State} {m : MethodId} {args : Array Value} {below : List Frame} {meth : Method} {c : Code} {D : va_G} {nL : Nat} {G A : Nat → Prop} {Q : State → Prop} {ws : va_W} {lv : List (Nat × Value)} {cells slots pc : Nat} {st : List Value} {cc : ByteArray} {ret : Option FieldType} {Ts : List Cond} {own : String} {tys : List (ClassId × FieldType)}
theorem z_sld (K : z_K p l s m args meth c G A D tys cc nL ret Ts own) {b L : Nat} {xs : Nat → Int32} (hX : va_X b L xs s s.heap) (hbl : b < s.heap.size) (hbA : ¬ A b) (j : Nat) {i : Int32} (hi : i = nI j) (hj : j < L) (hL : L ≤ 2560) (hdg : decode cc pc = .ok (.iaload, 1)) (kk : Z p l e R s m args below meth c D nL G A Q ws lv cells slots (pc + 1) (.int (xs j) :: st)) : Z p l e R s m args below meth c D nL G A Q ws lv cells slots pc (.int i :: .ref b :: st) := fun H locs ls hP hD hS hl => by
  subst hi
  have e : (nI j).toNatClampNeg = j := nI_clamp (by omega)
  have h1 : vp_in (nI j) L := fun h => h.elim (nI_pos (by omega)) (fun h => by rw [e] at h; omega)
  refine va_sld K.1 K.2.1 hX hbl hbA hS h1 hdg ?_
  rw [e]
  exact kk H locs ls hP hD hS hl
theorem z_slen (K : z_K p l s m args meth c G A D tys cc nL ret Ts own) {b L : Nat} {xs : Nat → Int32} (hX : va_X b L xs s s.heap) (hbl : b < s.heap.size) (hbA : ¬ A b) (hdg : decode cc pc = .ok (.arraylength, 1)) (kk : Z p l e R s m args below meth c D nL G A Q ws lv cells slots (pc + 1) (.int (nI L) :: st)) : Z p l e R s m args below meth c D nL G A Q ws lv cells slots pc (.ref b :: st) := fun H locs ls hP hD hS hl =>
  va_slen K.1 K.2.1 hX hbl hbA hS hdg (kk H locs ls hP hD hS hl)
end ZSLD
/-! the number's cells -/
def z_SX (bS : Nat) (U : State) : Prop := ∃ (L : Nat) (xs : Nat → Int32), L ≤ 2560 ∧ va_X bS L xs U U.heap ∧ bS < U.heap.size
theorem z_SX.step {bS : Nat} {U t : State} (h : z_SX bS U) (hW : U.WarmedH t.vm) (hsz : U.heap.size ≤ t.heap.size) (hk : t.heap[bS]? = U.heap[bS]?) : z_SX bS t := by
  obtain ⟨L, xs, h1, h2, h3⟩ := h
  exact ⟨L, xs, h1, (va_X.moved hW.alike h2).kept hk, by omega⟩
theorem z_SX.calling {bS : Nat} (U : State) (g : JFrame) (mk : MethodId) (a : Array Value) (h : z_SX bS U) : z_SX bS (U.calling g mk a) := h.step (State.WarmedH.refl U) (Nat.le_refl _) rfl
theorem z_SX.at {bS : Nat} {s : State} {A : Nat → Prop} (h : z_SX bS s) (hA : ¬ A bS) (H : Heap) (locs : List Loc) (hS : va_S A s.heap H locs) (U : State) (hU : U.heap = H) (hW : s.WarmedH U.vm) : z_SX bS U := by
  have hb := h
  obtain ⟨L, xs, h1, h2, h3⟩ := hb
  exact h.step hW (by rw [hU]; exact hS.1) (by rw [hU]; exact hS.2.1 bS h3 hA)
set_option maxRecDepth 100000 in
set_option maxHeartbeats 4000000 in
theorem n_L_cell (l : Launch) (G : Nat → Prop) (D : va_G) (cI cZ cQ cW : ClassId) (bS k : Nat) (hk : k < 24) : z_MN l yL_cell wsL_cell { frames := 0, cells := 0, slots := 0, locals := 0 } G D [(cI, .int), (cZ, .boolean), (cQ, .array .int), (cW, .array .boolean)] [.ref bS, .int (nI k)] [] (z_SX bS) (β := Int32) (fun _ => True) (fun x => some (.int x)) (fun _ => []) 0 0 := by
  refine z_ofWN (cc := cL_cell) (nL := 2) (ret := some .int) (by decide) rfl (Nat.le_of_ble_eq_true rfl) (lv0 := [(0, .ref bS), (1, .int (nI k))]) rfl ?_
  intro p e s m args below meth c K hname hX hAG
  obtain ⟨L, xs, hL, hXv, hbl⟩ := hX
  have hbA : ¬ z_A (List.map Prod.fst ([] : va_W)) s.heap.size bS := fun h => h.elim (fun h => nomatch h) (fun h => by omega)
  refine z_iload_n K 1 dL_cell_0 rfl ?_
  refine z_aload_n K 0 dL_cell_1 rfl ?_
  refine z_slen K hXv hbl hbA dL_cell_2 ?_
  refine z_icmp_ge K 12 dL_cell_3 (by decide) (fun c3 => ?_) (fun c3 => ?_)
  · refine z_ldc (v := 790386105) K dL_cell_12 (by decide +kernel) ?_
    refine z_iload_n K 1 dL_cell_14 rfl ?_
    refine z_iconst (v := 3) K dL_cell_15 (by decide) ?_
    refine z_iadd K dL_cell_16 ?_
    refine z_imul K dL_cell_17 ?_
    exact z_iretN K dL_cell_18 _ trivial rfl rfl (by decide) (by decide)
  · have hkL : k < L := by
      have : ¬ L ≤ k := fun h => c3 ((nI_leI (by omega) (by omega)).mpr h)
      omega
    refine z_aload_n K 0 dL_cell_6 rfl ?_
    refine z_iload_n K 1 dL_cell_7 rfl ?_
    refine z_sld K hXv hbl hbA k rfl hkL hL dL_cell_8 ?_
    refine z_goto K 18 dL_cell_9 (by decide) ?_
    exact z_iretN K dL_cell_18 _ trivial rfl rfl (by decide) (by decide)
