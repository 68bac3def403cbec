section
/-- a private method of a class that the tables say can be made, by its rows of tables_1 -/
def lw_okq (q : MethodName × Nat) : Prop := (q.1.cls ≠ "java/lang/invoke/MethodHandle" ∧ q.1.cls ≠ "java/lang/invoke/VarHandle") ∧ Cond.instantiable q.1.cls q.2 ∈ tables_1 ∧ Cond.privateMethod q.1 ∈ tables_1 ∧ Cond.instanceMethod q.1 ∈ tables_1
theorem lw_p0 : lw_okq (⟨"FableIndex", "needFable", "(I)V"⟩, 4) := ⟨⟨by decide +kernel, by decide +kernel⟩, List.mem_of_getElem? (i := 13) (by decide +kernel), List.mem_of_getElem? (i := 111) (by decide +kernel), List.mem_of_getElem? (i := 112) (by decide +kernel)⟩
theorem lw_p1 : lw_okq (⟨"java/lang/Throwable", "fillInStackTrace", "(I)Ljava/lang/Throwable;"⟩, 6) := ⟨⟨by decide +kernel, by decide +kernel⟩, List.mem_of_getElem? (i := 153) (by decide +kernel), List.mem_of_getElem? (i := 151) (by decide +kernel), List.mem_of_getElem? (i := 152) (by decide +kernel)⟩
theorem lw_p2 : lw_okq (⟨"FableIndex$Land", "hush", "()V"⟩, 7) := ⟨⟨by decide +kernel, by decide +kernel⟩, List.mem_of_getElem? (i := 61) (by decide +kernel), List.mem_of_getElem? (i := 265) (by decide +kernel), List.mem_of_getElem? (i := 266) (by decide +kernel)⟩
theorem lw_p3 : lw_okq (⟨"FableIndex$Land", "spread", "(LFableIndex$Book;)Z"⟩, 7) := ⟨⟨by decide +kernel, by decide +kernel⟩, List.mem_of_getElem? (i := 61) (by decide +kernel), List.mem_of_getElem? (i := 269) (by decide +kernel), List.mem_of_getElem? (i := 270) (by decide +kernel)⟩
theorem lw_p4 : lw_okq (⟨"FableIndex$Land", "arriving", "(I)I"⟩, 7) := ⟨⟨by decide +kernel, by decide +kernel⟩, List.mem_of_getElem? (i := 61) (by decide +kernel), List.mem_of_getElem? (i := 273) (by decide +kernel), List.mem_of_getElem? (i := 274) (by decide +kernel)⟩
theorem lw_p5 : lw_okq (⟨"FableIndex$Land", "admitted", "(LFableIndex$Book;II)I"⟩, 7) := ⟨⟨by decide +kernel, by decide +kernel⟩, List.mem_of_getElem? (i := 61) (by decide +kernel), List.mem_of_getElem? (i := 277) (by decide +kernel), List.mem_of_getElem? (i := 278) (by decide +kernel)⟩
theorem lw_p6 : lw_okq (⟨"FableIndex", "needFreePage", "()V"⟩, 4) := ⟨⟨by decide +kernel, by decide +kernel⟩, List.mem_of_getElem? (i := 13) (by decide +kernel), List.mem_of_getElem? (i := 471) (by decide +kernel), List.mem_of_getElem? (i := 472) (by decide +kernel)⟩
def lw_privs_1 : List (MethodName × Nat) := [(⟨"FableIndex", "needFable", "(I)V"⟩, 4), (⟨"java/lang/Throwable", "fillInStackTrace", "(I)Ljava/lang/Throwable;"⟩, 6), (⟨"FableIndex$Land", "hush", "()V"⟩, 7), (⟨"FableIndex$Land", "spread", "(LFableIndex$Book;)Z"⟩, 7), (⟨"FableIndex$Land", "arriving", "(I)I"⟩, 7), (⟨"FableIndex$Land", "admitted", "(LFableIndex$Book;II)I"⟩, 7), (⟨"FableIndex", "needFreePage", "()V"⟩, 4)]
theorem lw_r1 : ∀ q ∈ lw_privs_1, lw_okq q := List.forall_mem_cons.mpr ⟨lw_p0, List.forall_mem_cons.mpr ⟨lw_p1, List.forall_mem_cons.mpr ⟨lw_p2, List.forall_mem_cons.mpr ⟨lw_p3, List.forall_mem_cons.mpr ⟨lw_p4, List.forall_mem_cons.mpr ⟨lw_p5, List.forall_mem_cons.mpr ⟨lw_p6, fun _ h => absurd h List.not_mem_nil⟩⟩⟩⟩⟩⟩⟩
def lw_privs : List (MethodName × Nat) := lw_privs_1
def lw_tbl : List Cond := k2_sels lw_privs ++ tables_1
theorem lw_privs_ok : ∀ q ∈ lw_privs, lw_okq q := lw_r1
/-- the streams that the claim lets the run draw from -/
abbrev lw_cs : List Choice := [Jvm.Choice.named "NaN.bits"]
theorem lw_bits : nanBits ∈ lw_cs := by first | decide | exact List.mem_cons_self | simp [lw_cs, nanBits]
/-! ===== BEGIN words of one list among another's, by their places ===== -/
theorem goodIn_r {big : List Cond} (ws : List Cond) (ps : List Nat) (hp : ws = ps.filterMap (fun i => big[i]?)) (h : ws.all goodWord = true) : GoodIn big ws := by
  intro w hw
  have h1 := List.all_eq_true.mp h w hw
  rw [hp] at hw
  obtain ⟨i, -, hi⟩ := List.mem_filterMap.mp hw
  have hm : w ∈ big := by first | exact List.mem_of_getElem? hi | exact List.getElem?_mem hi
  exact ⟨hm, good_of_word h1⟩
theorem goodIn_app {big a b : List Cond} (ha : GoodIn big a) (hb : GoodIn big b) : GoodIn big (a ++ b) := fun w h => (List.mem_append.mp h).elim (ha w) (hb w)
theorem goodIn_ca {big a b : List Cond} {c : Cond} (ha : GoodIn big (c :: a)) (hb : GoodIn big b) : GoodIn big (c :: (a ++ b)) := fun w h => (List.mem_cons.mp h).elim (fun e => ha w (List.mem_cons.mpr (Or.inl e))) (fun h => (List.mem_append.mp h).elim (fun h => ha w (List.mem_cons.mpr (Or.inr h))) (hb w))
theorem goodIn_sub {big ws : List Cond} (hm : ∀ w ∈ ws, w ∈ big) (h : ws.all goodWord = true) : GoodIn big ws := fun w hw => ⟨hm w hw, good_of_word (List.all_eq_true.mp h w hw)⟩
/-! ===== END ===== -/

/-- the class of the arrays of arrays of t is there -/
def va_AOA (t : FieldType) (U : State) : Prop := (Cond.arrayOver (.array t)).before #[] U = true
theorem va_AOA.of {t : FieldType} {A : Array Value} {U : State} (h : (Cond.arrayOver (.array t)).before A U = true) : va_AOA t U := h
theorem va_AOA.use {t : FieldType} {A : Array Value} {U : State} (h : va_AOA t U) : (Cond.arrayOver (.array t)).before A U = true := h
theorem va_AOA.moved {t : FieldType} {u U : State} (hvm : u.vm.Alike U.vm) (h : va_AOA t u) : va_AOA t U := by
  obtain ⟨p, q, r, g1, g2, g3, g4, g5⟩ := arrayOverA_spec h
  obtain ⟨r', g6, g7⟩ := hvm.2.2 _ _ g3
  have w1 : (U.vm.classes.findIdx? fun (x : Class) => match x.kind with | .array component _ => component == p | _ => false) = some q := by
    rw [hvm.findIdx?_eq _ (fun _ => rfl)]; exact g2
  have w2 : r'.kind = .array p (.array t) := by rw [g7]; exact g4
  have w3 : U.vm.findClass (FieldType.array t).toString = some p := by rw [hvm.findClass]; exact g1
  have w4 : U.vm.findClass ("[" ++ (FieldType.array t).toString) = some q := by rw [hvm.findClass]; exact g5
  unfold va_AOA Cond.before Cond.holds
  simp only [Cond.value]
  rw [w3, Option.bind_some]
  refine (congrArg (fun o : Option Nat => (o.bind (fun c => (U.vm.classes[c]?).map fun (k : Class) => match k.kind with | .array _ ty => decide (ty = FieldType.array t) && decide (U.vm.findClass ("[" ++ (FieldType.array t).toString) = some c) | _ => false) == some true)) w1).trans ?_
  simp [g6, w2, w4]


/-! ===== BEGIN new T[n][m]: the outer array a place, the inner ones among the pooled ===== -/
/-- f, but v at every address of l -/
def vr_up {α : Type} (f : Nat → α) (l : List Nat) (v : α) : Nat → α := fun a => if a ∈ l then v else f a
theorem vr_up_in {α : Type} {f : Nat → α} {l : List Nat} {v : α} {a : Nat} (h : a ∈ l) : vr_up f l v a = v := if_pos h
theorem vr_up_ne {α : Type} {f : Nat → α} {l : List Nat} {v : α} {a : Nat} (h : a ∉ l) : vr_up f l v a = f a := if_neg h
theorem vr_rows {L l : List Nat} {f : Nat → va_E} {e : va_E} (h : ∀ a, a ∈ l → a ∉ L) : va_pl L f ++ l.map (fun a => (a, e)) = va_pl (L ++ l) (vr_up f l e) := by
  unfold va_pl
  rw [List.map_append]
  congr 1
  · apply List.map_congr_left
    intro a ha
    rw [vr_up_ne (fun q => h a q ha)]
  · apply List.map_congr_left
    intro a ha
    rw [vr_up_in ha]
theorem vr_lay {X rows : va_W} {x : Nat × va_E} {pl : va_W} {D : va_G} {cl : List vw_C} {H : Heap} (hP : va_P D cl (((X ++ pl) ++ [x]) ++ rows) H) : va_P D cl ((X ++ [x]) ++ (pl ++ rows)) H := by
  rw [List.append_assoc (X ++ pl)] at hP
  have h := va_P.swap hP
  rw [← List.append_assoc X] at h
  have h2 := va_P.swap h
  rw [List.append_assoc (X ++ [x])] at h2
  exact h2
theorem vr_layD {X rows : va_W} {x : Nat × va_E} {pl : va_W} {A : Nat → Prop} (hD : va_D A (((X ++ pl) ++ [x]) ++ rows)) : va_D A ((X ++ [x]) ++ (pl ++ rows)) := by
  rw [List.append_assoc (X ++ pl)] at hD
  have h := va_D.swap hD
  rw [← List.append_assoc X] at h
  have h2 := va_D.swap h
  rw [List.append_assoc (X ++ [x])] at h2
  exact h2
theorem vr_outer (c : ClassId) (N h0 : Nat) : ∀ i : Nat, Jvm.Free.Multi.outerC c N h0 i = arrV c N (fun j => va_rf (if j < i then some (h0 + 1 + j) else none))
  | 0 => by
    show ({ cls := c, slots := Array.replicate N .null, vm := .none } : Cell) = _
    rw [arrV_new]
    refine congrArg (arrV c N) (funext fun j => ?_)
    simp [va_rf]
  | i + 1 => by
    show (Jvm.Free.Multi.outerC c N h0 i).setSlot i (.ref (h0 + 1 + i)) = _
    rw [vr_outer c N h0 i, arrV_store]
    refine congrArg (arrV c N) (funext fun j => ?_)
    by_cases e : j = i
    · subst e
      simp [updV, va_rf]
    · by_cases h : j < i
      · simp [updV, e, h, Nat.lt_succ_of_lt h]
      · simp [updV, e, h, show ¬ j < i + 1 by omega]
section VGM
variable {p : Program} {l : Launch} {e : Env} {R : Room} {s : State} {m : MethodId} {args : Array Value} {below : List Frame} {meth : Method} {c : Code} {H : Heap} {locs : List Loc} {cells slots : Nat} {Q : State → Prop}
variable {cc : ByteArray} {pc : Nat} {ls : Array Slot} {rest : List Value} {D : va_G} {cl : List vw_C} {A : Nat → Prop} {a : Nat} {tys : List (ClassId × FieldType)} {ws : va_W} {H0 : Heap}
theorem va_mna {X : va_W} {L : List Nat} {f : Nat → va_E} {cc : ByteArray} (hexec : p.tables.exec = Jvm.exec) (hb : c.code = cc) {own : String} {index : Nat} {ty : FieldType} {cy : ClassId} (hown : s.vm.findClass own = some m.cls) (hclink : (Cond.classLink own index ("[" ++ (FieldType.array ty).toString)).before args s = true) (hover : va_AOA ty s) (harr : (Cond.arrayClass ty).before args s = true) (hcy : s.vm.findClass (FieldType.array ty).toString = some cy)
    (hK : va_K D cl tys s) (hP : va_P D cl (X ++ va_pl L f) H) (hD : va_D A (X ++ va_pl L f)) (hS : va_S A H0 H locs) (hA : ∀ q, H0.size ≤ q → A q) {n k : Int32} {N' K' : Nat} {z : vp_A} (hn : ¬ n < 0) (hk : ¬ k < 0) (hN : n.toNatClampNeg = N') (hM : k.toNatClampNeg = K')
    (hb1 : N' * 4 ≤ 536870912) (hb2 : K' * componentBytes ty ≤ 536870912) (hb3 : K' ≤ 536870912) (hdf : fits ty (defaultValue ty) = true) (hdd : (defaultValue ty).isDefault = true) (hcells : cells + (1 + N') ≤ R.cells) (hslots : slots + (N' + N' * K') ≤ R.slots) (hz : ∀ c : ClassId, Jvm.Free.Multi.innerC c K' (defaultValue ty) = vp_cell c z) (hdg : decode cc pc = .ok (.multianewarray index 2, 4))
    (kk : ∀ (q : Nat) (r : Nat → Nat) (cA : ClassId) (H1 : Heap), (∀ i j : Nat, i < N' → j < N' → r i = r j → i = j) → (∀ i : Nat, i < N' → r i ∉ L) → va_K D cl (tys ++ [(cA, .array ty)]) s →
      va_P D cl ((X ++ [(q, .inl (cA, N', .inr (.inr (.inr (.inr (fun i => if i < N' then some (r i) else none))))))]) ++ va_pl (L ++ (List.range N').map r) (vr_up f ((List.range N').map r) (.inl (cy, z)))) H1 → va_D A ((X ++ [(q, .inl (cA, N', .inr (.inr (.inr (.inr (fun i => if i < N' then some (r i) else none))))))]) ++ va_pl (L ++ (List.range N').map r) (vr_up f ((List.range N').map r) (.inl (cy, z)))) → va_S A H0 H1 locs →
      W p l e R s m args below meth c H1 locs (cells + 1 + N') (slots + N' + N' * K') Q (F0 m (pc + 4) ls (.ref q :: rest))) : W p l e R s m args below meth c H locs cells slots Q (F0 m pc ls (.int k :: .int n :: rest)) := by
  subst hN
  subst hM
  intro T hT Xs
  obtain ⟨vm₁, cA, comp, -, fA, fC, hO, -, X', step⟩ := Xs.multianewarray2F hexec hown hclink (va_AOA.use hover) harr (g := F0 m pc ls (.int k :: .int n :: rest)) rfl (by rw [hb]; exact hdg) rfl hn hk hb1 hb2 hb3 hdf hdd hcells hslots
  have ec : some cy = some comp := hcy.symm.trans fC
  cases ec
  generalize hF : Jvm.Free.Multi.fill (T.setVm vm₁) cA cy n.toNatClampNeg k.toNatClampNeg (defaultValue ty) n.toNatClampNeg = F at X' step
  have hTh : (T.setVm vm₁).heap = H := hT
  obtain ⟨f1, f2, -, -⟩ := Jvm.Free.Multi.fill_facts (T.setVm vm₁) cA cy n.toNatClampNeg k.toNatClampNeg (defaultValue ty) n.toNatClampNeg
  rw [hF, hTh] at f1 f2
  have hold : ∀ x : Nat, x < H.size → F.heap[x]? = H[x]? := fun x hx => by
    have := Jvm.Free.Multi.fill_old (T.setVm vm₁) cA cy n.toNatClampNeg k.toNatClampNeg (defaultValue ty) (a := x) (by rw [hTh]; exact hx) n.toNatClampNeg
    rw [hF, hTh] at this
    exact this
  have hrow : ∀ j : Nat, j < n.toNatClampNeg → F.heap[H.size + 1 + j]? = some (vp_cell cy z) := fun j hj => by
    have := Jvm.Free.Multi.fill_inner (T.setVm vm₁) cA cy n.toNatClampNeg k.toNatClampNeg (defaultValue ty) n.toNatClampNeg j hj
    rw [hF, hTh, hz] at this
    exact this
  have hout : Jvm.Free.Multi.outerC cA n.toNatClampNeg H.size n.toNatClampNeg = vp_cell cA (n.toNatClampNeg, .inr (.inr (.inr (.inr (fun i => if i < n.toNatClampNeg then some (H.size + 1 + i) else none))))) := by
    rw [vp_cell_q]
    exact vr_outer cA n.toNatClampNeg H.size n.toNatClampNeg
  rw [hout] at f2
  have hlt : ∀ a, a ∈ L → a < H.size := fun a ha => by
    obtain ⟨k9, hk9⟩ := va_pl_get (X := X) (f := f) ha
    exact (hP k9 _ hk9).lt
  have hnl : ∀ i : Nat, i < n.toNatClampNeg → H.size + 1 + i ∉ L := fun i _ h => by
    have := hlt _ h
    omega
  have hnm : ∀ a, a ∈ (List.range n.toNatClampNeg).map (fun i => H.size + 1 + i) → a ∉ L := fun a ha h => by
    obtain ⟨i, -, rfl⟩ := List.mem_map.mp ha
    have := hlt _ h
    omega
  have hP0 : va_P D cl (X ++ va_pl L f) F.heap := hP.kept (fun k9 x hx => hold x.1 ((hP k9 x hx).lt))
  have hP1 : va_P D cl ((X ++ va_pl L f) ++ [(H.size, .inl (cA, n.toNatClampNeg, .inr (.inr (.inr (.inr (fun i => if i < n.toNatClampNeg then some (H.size + 1 + i) else none))))))]) F.heap := hP0.app (fun k9 x hx => by
    have h0 : k9 < 1 := (List.getElem?_eq_some_iff.mp hx).1
    rw [show k9 = 0 by omega] at hx
    cases hx
    exact f2)
  have hP2 : va_P D cl (((X ++ va_pl L f) ++ [(H.size, .inl (cA, n.toNatClampNeg, .inr (.inr (.inr (.inr (fun i => if i < n.toNatClampNeg then some (H.size + 1 + i) else none))))))]) ++ ((List.range n.toNatClampNeg).map (fun i => H.size + 1 + i)).map (fun a => (a, .inl (cy, z)))) F.heap := hP1.app (fun k9 x hx => by
    obtain ⟨a, ha, rfl⟩ := List.mem_map.mp (List.mem_of_getElem? hx)
    obtain ⟨i, hi, rfl⟩ := List.mem_map.mp ha
    exact hrow i (List.mem_range.mp hi))
  have hD2 : va_D A (((X ++ va_pl L f) ++ [(H.size, .inl (cA, n.toNatClampNeg, .inr (.inr (.inr (.inr (fun i => if i < n.toNatClampNeg then some (H.size + 1 + i) else none))))))]) ++ ((List.range n.toNatClampNeg).map (fun i => H.size + 1 + i)).map (fun a => (a, .inl (cy, z)))) := by
    have hD1 := hD.push (e := .inl (cA, n.toNatClampNeg, .inr (.inr (.inr (.inr (fun i => if i < n.toNatClampNeg then some (H.size + 1 + i) else none)))))) hP rfl (hA _ hS.1)
    generalize hW1 : (X ++ va_pl L f) ++ [(H.size, .inl (cA, n.toNatClampNeg, .inr (.inr (.inr (.inr (fun i => if i < n.toNatClampNeg then some (H.size + 1 + i) else none))))))] = W1 at hD1 hP1 ⊢
    have hle : ∀ (k9 : Nat) (x : Nat × va_E), W1[k9]? = some x → x.1 ≤ H.size := fun k9 x hx => by
      rw [← hW1] at hx
      by_cases hl : k9 < (X ++ va_pl L f).length
      · rw [List.getElem?_append_left hl] at hx
        exact Nat.le_of_lt ((hP k9 x hx).lt)
      · rw [List.getElem?_append_right (by omega)] at hx
        have h0 : k9 - (X ++ va_pl L f).length < 1 := (List.getElem?_eq_some_iff.mp hx).1
        rw [show k9 - (X ++ va_pl L f).length = 0 by omega] at hx
        cases hx
        exact Nat.le_refl _
    have hr : ∀ (k9 : Nat) (x : Nat × va_E), (((List.range n.toNatClampNeg).map (fun i => H.size + 1 + i)).map (fun a => ((a, .inl (cy, z)) : Nat × va_E)))[k9]? = some x → x.1 = H.size + 1 + k9 := fun k9 x hx => by
      rw [List.getElem?_map, List.getElem?_map] at hx
      by_cases h9 : k9 < n.toNatClampNeg
      · rw [List.getElem?_range h9] at hx
        cases hx
        rfl
      · have hn0 : (List.range n.toNatClampNeg)[k9]? = none := List.getElem?_eq_none (by rw [List.length_range]; omega)
        rw [hn0] at hx
        cases hx
    refine ⟨fun i j x y hi hj hxy => ?_, fun k9 x hx => ?_⟩
    · by_cases h1 : i < W1.length <;> by_cases h2 : j < W1.length
      · rw [List.getElem?_append_left h1] at hi
        rw [List.getElem?_append_left h2] at hj
        exact hD1.1 i j x y hi hj hxy
      · rw [List.getElem?_append_left h1] at hi
        rw [List.getElem?_append_right (by omega)] at hj
        have := hle _ _ hi
        have := hr _ _ hj
        omega
      · rw [List.getElem?_append_right (by omega)] at hi
        rw [List.getElem?_append_left h2] at hj
        have := hle _ _ hj
        have := hr _ _ hi
        omega
      · rw [List.getElem?_append_right (by omega)] at hi hj
        have := hr _ _ hi
        have := hr _ _ hj
        omega
    · by_cases h1 : k9 < W1.length
      · rw [List.getElem?_append_left h1] at hx
        exact hD1.2 k9 x hx
      · rw [List.getElem?_append_right (by omega)] at hx
        have := hr _ _ hx
        exact hA _ (by have := hS.1; omega)
  have hAr : ArrOfT s cA (.array ty) := fun N9 z9 => by
    obtain ⟨-, k9, hk9, cm9, hkk9⟩ := (hO 0 0 0).1
    exact ⟨(fun q hq => by cases hq), k9, hk9, cm9, hkk9⟩
  have hK2 : va_K D cl (tys ++ [(cA, .array ty)]) s := ⟨hK.1, fun k9 x hx => by
    by_cases hl : k9 < tys.length
    · rw [List.getElem?_append_left hl] at hx
      exact hK.2 k9 x hx
    · rw [List.getElem?_append_right (by omega)] at hx
      have h0 : k9 - tys.length < 1 := (List.getElem?_eq_some_iff.mp hx).1
      rw [show k9 - tys.length = 0 by omega] at hx
      cases hx
      exact ⟨hAr, fA⟩⟩
  obtain ⟨t, a1, b1⟩ := kk H.size (fun i => H.size + 1 + i) cA F.heap (fun i j _ _ h => by have h9 : H.size + 1 + i = H.size + 1 + j := h; omega) hnl hK2 (by rw [← vr_rows hnm]; exact vr_lay hP2) (by rw [← vr_rows hnm]; exact vr_layD hD2) ⟨by rw [f1]; have := hS.1; omega, fun x h1 h2 => (hold x (Nat.lt_of_lt_of_le h1 hS.1)).trans (hS.2.1 x h1 h2), hS.2.2⟩ F rfl X'
  refine ⟨t, step t ?_, b1⟩
  have e : T.heap.size = H.size := by rw [hT]
  rw [e]
  exact a1
end VGM
/-! ===== END ===== -/
end
section
/-! ===== BEGIN exceptions that leave a method, and their catching by the caller (launches without stack traces) ===== -/
section VXA
/-! The laws vx_back, vx_callV, vx_callS, vx_callSW, vx_throw0, vx_throwS follow proofs of the library, with one case more: JvmDerived/Free/Laws.lean (Back.of_free), Shelf42/LK1.lean (callV, callS), Shelf/KitTraced.lean (throwNew0V, throwNewS). -/
/-- where a method has thrown q: the class by its name, the cell, what was written, the world -/
def vx_T (XC : String → State → State → Prop) (st : State) (q : Addr) (t : State) (mc ms : Nat) (free : Addr → Prop) : Prop :=
  ∃ (E : String) (ce : Cell) (L : List Loc), XC E st t ∧ t.heap[q]? = some ce ∧ ce.vm = .none ∧ st.vm.findClass E = some ce.cls ∧ st.WarmedH t.vm ∧ st.sameButNew ({ t with vm := st.vm } : State) L mc ms ∧ ∀ z ∈ L, free z.base
def vx_Q (Qc : Array Value → State → Outcome → State → Prop) (XC : String → State → State → Prop) (mc ms : Nat) (free : Addr → Prop) : Array Value → State → Outcome → State → Prop := fun a st o t =>
  (Qc a st o t ∧ ∃ L, FrameEnd st o t L mc ms ∧ ∀ q ∈ L, free q.base) ∨ ∃ q, o = .threw q ∧ vx_T XC st q t mc ms free
/-- a callee that returns or throws -/
def vx_Met (l : Launch) (y : MethodName) (ws : List Cond) (rm : Room) (Pc : Array Value → State → Prop) (Qc : Array Value → State → Outcome → State → Prop) (XC : String → State → State → Prop) (mc ms : Nat) (free : Addr → Prop) : Prop :=
  MetFree l y (headSpec ws rm) Pc (fun _ _ _ _ _ => True) (vx_Q Qc XC mc ms free)
def vx_Post (XC : String → State → State → Prop) (mc ms : Nat) (free : Addr → Prop) : Pt → Array Value → Addr → Pt → Prop := fun A a q B =>
  ∃ (g : JFrame) (mk : MethodId) (t : State) (L : List Loc) (E : String) (ce : Cell), B.U.heap = t.heap ∧ B.U.vm = t.vm ∧ XC E (A.U.calling g mk a) t ∧ t.heap[q]? = some ce ∧ ce.vm = .none ∧ A.U.vm.findClass E = some ce.cls ∧ B.locs = A.locs ++ L ∧ (∀ z ∈ L, free z.base) ∧ B.cells = A.cells + mc ∧ B.slots = A.slots + ms
def vx_Back (l : Launch) (R : Room) (p : Program) (e : Env) (below : List Frame) (s : State) (sargs : Array Value) (y : MethodName) (len W9 : Nat)
    (Pre : Pt → Array Value → Prop) (Post : Pt → Array Value → Option Value → Pt → Prop) (PostX : Pt → Array Value → Addr → Pt → Prop) : Prop :=
  ∀ (m : MethodId) (meth : Method) (c : Code) (A : Pt) (g : JFrame) (ig : Instr) (mk : MethodId) (a : Array Value),
    Stand p l e R s m sargs below meth c A.U A.locs A.cells A.slots → g.method = m → g.locals.size = c.maxLocals → decode c.code g.pc = .ok (ig, len) →
    2 * g.monitorRoom + (g.stack.map fun v => v.category).sum ≤ W9 → A.U.methodNamed? y = some mk → Pre A a →
    (∃ (v : Option Value) (B : Pt), Stand p l e R s m sargs below meth c B.U B.locs B.cells B.slots ∧ Post A a v B ∧
      Steps p.tables e below (doInvoke e (A.U.setTop g) [] mk a).1 (B.U.setTop { g with pc := g.pc + len, stack := v.toList ++ g.stack })) ∨
    (∃ (q : Addr) (B : Pt), Stand p l e R s m sargs below meth c B.U B.locs B.cells B.slots ∧ PostX A a q B ∧
      Steps p.tables e below (doInvoke e (A.U.setTop g) [] mk a).1 ((B.U.setTop g).pushFrame (.throwing q)))
section Payer
variable {l : Launch} {R : Room} {p : Program} {e : Env} {below : List Frame} {s : State} {sargs : Array Value} {y : MethodName} {len W9 : Nat}
theorem vx_back {ws : List Cond} {rm : Room} {Pc : Array Value → State → Prop} {Qc : Array Value → State → Outcome → State → Prop} {XC : String → State → State → Prop} {mc ms : Nat} {free : Addr → Prop} {bytes : ByteArray} {maxL : Nat} {ret : Option FieldType}
    (hM : vx_Met l y ws rm Pc Qc XC mc ms free) (hblind : FrameBlind Pc) (hrc : rm.cells = mc) (hrs : rm.slots = ms)
    (hframes : rm.frames + 1 ≤ R.frames) (hlocals : W9 + (maxL + 11) + rm.locals ≤ R.locals)
    (hws : ∀ w ∈ ws, ∀ a' U, s.WarmedH U.vm → w.before a' U = true) (hcode : Cond.code y bytes maxL ret ∈ ws) (hinit : ∀ a' U, s.WarmedH U.vm → (Cond.initialized y.cls).before a' U = true) :
    vx_Back l R p e below s sargs y len W9 (PreOf R mc ms Pc) (PostOf Qc mc ms free) (vx_Post XC mc ms free) := by
  intro m meth c A g ig mk a X hg hsize hdg hW hn hp
  have h1 : (headSpec ws rm).pre.before a A.U = true := atoms_intro fun w hw => hws w hw _ _ X.warmed
  have h2 : (Cond.code y bytes maxL ret).before a A.U = true := hws _ hcode _ _ X.warmed
  have h3 : (Cond.initialized y.cls).before a A.U = true := hinit _ _ X.warmed
  have h4 : A.cells + (headSpec ws rm).room.cells ≤ R.cells := by rw [show (headSpec ws rm).room.cells = mc from hrc]; exact hp.1
  have h5 : A.slots + (headSpec ws rm).room.slots ≤ R.slots := by rw [show (headSpec ws rm).room.slots = ms from hrs]; exact hp.2.1
  have hPc : Pc a (A.U.calling g mk a) := hblind _ _ _ _ hp.2.2
  obtain ⟨U, Ls, c0, s0⟩ := A
  dsimp only [Pt.U, Pt.locs, Pt.cells, Pt.slots] at h1 h2 h3 h4 h5 X hn hPc ⊢
  obtain ⟨methY, cY, hmY, hcY, -, hlY, -, -, -, -⟩ := Cond.code_spec hn h2
  obtain ⟨kY, hkY, -⟩ := className_of_methodNamed hn
  have hinitY : kY.init = .initialized := Cond.initialized_spec (findClass_of_methodNamed hn) hkY h3
  have h : At U g.method c below := by rw [hg]; exact X.here
  have hlocals9 : W9 + (maxL + 11) + (headSpec ws rm).room.locals ≤ R.locals := hlocals
  have happ : (headSpec ws rm).appliesLoose y e.platform (U.calling g mk a) = true :=
    Spec.appliesLoose_calling (g := g) h hdg hn hkY hinitY
      (X.room_calling (g := g) (R' := (headSpec ws rm).room) hsize hmY hcY hframes (by rw [hlY]; omega) h4 h5) h1
  obtain ⟨mid, hmid⟩ := h.above
  have hfr : (U.setTop g).frames = (.java g :: mid) ++ below := by rw [State.frames_setTop' g h.top, hmid]; rfl
  obtain ⟨o, s₂, hsteps, -, hend, hq⟩ := Steps.callFree hM p X.admits X.cas X.clock (acts := []) hfr happ hPc trivial
  have hq' : vx_Q Qc XC mc ms free a (U.calling g mk a) o s₂ := hq
  rw [State.frames_setTop' g h.top] at hend
  obtain ⟨g₀, hg0⟩ := Option.isSome_iff_exists.mp h.top
  obtain ⟨r, hr⟩ := State.topJava?_eq_some.mp hg0
  have hr' : (({ U with heap := s₂.heap, slotsUsed := s₂.slotsUsed } : State).setVm s₂.vm).frames = .java g₀ :: r := hr
  rcases hq' with ⟨hqc, L, hfe, hL⟩ | ⟨q, rfl, E, ce, L, hx, hce, hcv, hcl, hW₂, hsm, hL⟩
  · obtain ⟨⟨v, rfl⟩, hW₂, e2, q2, q3, q4, q5, q6⟩ := id hfe
    have e3 : s₂ = ({ (U.calling g mk a).setFrames s₂.frames with heap := s₂.heap, slotsUsed := s₂.slotsUsed } : State).setVm s₂.vm := by
      have : s₂ = ({ s₂ with vm := (U.calling g mk a).vm } : State).setVm s₂.vm := rfl
      rw [e2] at this
      exact this
    obtain ⟨c₂, i₂, len₂, hc₂, hd₂, hf₂⟩ := hend
    have hW' : U.WarmedH s₂.vm := hW₂
    have hcc : c₂ = c := by
      have h1 : s₂.code? g.method = U.code? g.method := by
        rw [State.code?_eq, State.code?_eq, hW'.alike.method?]
      exact Option.some.inj (hc₂.symm.trans (h1.trans h.code))
    subst hcc
    have hlen : len₂ = len := by rw [hdg] at hd₂; cases hd₂; rfl
    subst hlen
    have hs₂ : s₂ = (({ U with heap := s₂.heap, slotsUsed := s₂.slotsUsed } : State).setVm s₂.vm).setTop { g with pc := g.pc + len₂, stack := v.toList ++ g.stack } := by
      refine e3.trans ?_
      rw [hf₂, State.calling_eq h.top, State.setFrames_setFrames, State.setTop_of_frames _ hr', hr]
      rfl
    have hsame : U.sameButNew ({ U with heap := s₂.heap, slotsUsed := s₂.slotsUsed } : State) L mc ms := by
      refine ⟨?_, q2, q3, q4, q5, q6⟩
      obtain ⟨t, ht, -⟩ := State.frames_cons hr
      show ({ U with heap := s₂.heap, slotsUsed := s₂.slotsUsed } : State) = { U.setFrames U.frames with heap := s₂.heap, slotsUsed := s₂.slotsUsed }
      rw [State.setFrames_self ht]
    subst hg
    refine Or.inl ⟨v, ⟨(({ U with heap := s₂.heap, slotsUsed := s₂.slotsUsed } : State).setVm s₂.vm), Ls ++ L, c0 + mc, s0 + ms⟩,
      ⟨X.admits, X.cas, X.clock, X.frames, X.room, X.hears, X.method, X.code, (X.here.setHeapUsed s₂.heap s₂.slotsUsed).setVm hW'.alike, X.tail, State.WarmedH.trans X.warmed hW', X.limits, X.bytes, X.same.trans (hsame.setVm s.vm)⟩,
      ⟨g, mk, s₂, L, rfl, rfl, hqc, rfl, hL, rfl, rfl⟩, ?_⟩
    show Steps p.tables e below _ ((({ U with heap := s₂.heap, slotsUsed := s₂.slotsUsed } : State).setVm s₂.vm).setTop { g with pc := g.pc + len₂, stack := v.toList ++ g.stack })
    rw [← hs₂]
    exact hsteps
  · obtain ⟨e2, q2, q3, q4, q5, q6⟩ := id hsm
    have e3 : s₂ = ({ (U.calling g mk a).setFrames s₂.frames with heap := s₂.heap, slotsUsed := s₂.slotsUsed } : State).setVm s₂.vm := by
      have : s₂ = ({ s₂ with vm := (U.calling g mk a).vm } : State).setVm s₂.vm := rfl
      rw [e2] at this
      exact this
    have hf₂ : s₂.frames = .throwing q :: .java g :: U.frames.tail := hend
    have hW' : U.WarmedH s₂.vm := hW₂
    have hs₂ : s₂ = ((({ U with heap := s₂.heap, slotsUsed := s₂.slotsUsed } : State).setVm s₂.vm).setTop g).pushFrame (.throwing q) := by
      refine e3.trans ?_
      rw [hf₂, State.calling_eq h.top, State.setFrames_setFrames, State.pushFrame, State.frames_setTop _ hr', State.setTop_of_frames _ hr', State.setFrames_setFrames, hr]
      rfl
    have hsame : U.sameButNew ({ U with heap := s₂.heap, slotsUsed := s₂.slotsUsed } : State) L mc ms := by
      refine ⟨?_, q2, q3, q4, q5, q6⟩
      obtain ⟨t, ht, -⟩ := State.frames_cons hr
      show ({ U with heap := s₂.heap, slotsUsed := s₂.slotsUsed } : State) = { U.setFrames U.frames with heap := s₂.heap, slotsUsed := s₂.slotsUsed }
      rw [State.setFrames_self ht]
    subst hg
    refine Or.inr ⟨q, ⟨(({ U with heap := s₂.heap, slotsUsed := s₂.slotsUsed } : State).setVm s₂.vm), Ls ++ L, c0 + mc, s0 + ms⟩,
      ⟨X.admits, X.cas, X.clock, X.frames, X.room, X.hears, X.method, X.code, (X.here.setHeapUsed s₂.heap s₂.slotsUsed).setVm hW'.alike, X.tail, State.WarmedH.trans X.warmed hW', X.limits, X.bytes, X.same.trans (hsame.setVm s.vm)⟩,
      ⟨g, mk, s₂, L, E, ce, rfl, rfl, hx, hce, hcv, hcl, rfl, hL, rfl, rfl⟩, ?_⟩
    show Steps p.tables e below _ (((({ U with heap := s₂.heap, slotsUsed := s₂.slotsUsed } : State).setVm s₂.vm).setTop g).pushFrame (.throwing q))
    rw [← hs₂]
    exact hsteps
end Payer
section Calls
variable {p : Program} {l : Launch} {e : Env} {R : Room} {s : State} {m : MethodId} {args : Array Value} {below : List Frame} {meth : Method} {c : Code} {T : State} {locs : List Loc} {cells slots : Nat}
theorem vx_callV (X : Stand p l e R s m args below meth c T locs cells slots) (hexec : p.tables.exec = Jvm.exec) {own C : String} {index : Nat} {y : MethodName} {bytes : ByteArray} {maxL : Nat} {ret : Option FieldType}
    (hown : s.vm.findClass own = some m.cls) (hlink : (Cond.methodLink own index y).before args s = true) (hinst : (Cond.instanceMethod y).before args s = true) (hsel : (Cond.selects C y y).before args s = true)
    (hcode : (Cond.code y bytes maxL ret).before args s = true) (hy : y.cls ≠ "java/lang/invoke/MethodHandle" ∧ y.cls ≠ "java/lang/invoke/VarHandle")
    {W9 : Nat} {Pre : Pt → Array Value → Prop} {Post : Pt → Array Value → Option Value → Pt → Prop} {PostX : Pt → Array Value → Addr → Pt → Prop} (hK : vx_Back l R p e below s args y 3 W9 Pre Post PostX)
    {b : Addr} {cellB : Cell} (hcell : T.heap[b]? = some cellB) (hobj : cellB.vm.isStatics = false) (hcls : s.vm.findClass C = some cellB.cls)
    {g : JFrame} (hg : g.method = m) (hsize : g.locals.size = c.maxLocals) {argsL rest : List Value} (hlen : ∀ sig, parseMethodDescriptor y.desc = some sig → argsL.length = sig.parameters.length)
    (hstack : g.stack = argsL.reverse ++ .ref b :: rest) (hW : 2 * g.monitorRoom + (rest.map fun v => v.category).sum ≤ W9) (hdg : decode c.code g.pc = .ok (.invokevirtual index, 3))
    (hpre : ∀ vm₁, s.WarmedH vm₁ → Pre ⟨T.setVm vm₁, locs, cells, slots⟩ (Value.ref b :: argsL).toArray) :
    (∃ (v : Option Value) (vm₁ : Vm) (B : Pt), s.WarmedH vm₁ ∧ Stand p l e R s m args below meth c B.U B.locs B.cells B.slots ∧ Post ⟨T.setVm vm₁, locs, cells, slots⟩ (Value.ref b :: argsL).toArray v B ∧
      ∀ target, Steps p.tables e below (B.U.setTop { g with pc := g.pc + 3, stack := v.toList ++ rest }) target → Steps p.tables e below (T.setTop g) target) ∨
    (∃ (q : Addr) (vm₁ : Vm) (B : Pt), s.WarmedH vm₁ ∧ Stand p l e R s m args below meth c B.U B.locs B.cells B.slots ∧ PostX ⟨T.setVm vm₁, locs, cells, slots⟩ (Value.ref b :: argsL).toArray q B ∧
      Steps p.tables e below (T.setTop g) ((B.U.setTop { g with stack := rest }).pushFrame (.throwing q))) := by
  obtain ⟨mk, methM, hnamed, hmethM, hstM, habM⟩ := Cond.instanceMethod_spec hinst
  obtain ⟨methM', cM, hmethM', -, -, -, -, -, -, hsigM⟩ := Cond.code_spec hnamed hcode
  cases hmethM.symm.trans hmethM'
  obtain ⟨c2, r2, m2, q1, q2, q3, q4, kP, hkP, hkPi⟩ := Cond.selects_spec hsel
  cases hcls.symm.trans q1
  cases (State.methodFound?_of_named hnamed hy).symm.trans q2
  cases hnamed.symm.trans q3
  have hselP : selectMethod e.platform s.vm cellB.cls mk = .method mk := by rw [Launch.admits_selectMethod X.admits]; exact q4
  obtain ⟨vm₁, X₁, hstep₁⟩ := X.invokevirtual hexec hown hlink hnamed hmethM hstM hkP hkPi hy (a := b) (cell := cellB) hcell
    (fun z h => by rw [h] at hobj; cases hobj) hselP hmethM habM hkP hkPi (g := g) hg (argsL := argsL) (rest := rest) (hlen _ hsigM) hstack hdg
  rcases hK m meth c ⟨T.setVm vm₁, locs, cells, slots⟩ { g with stack := rest } (.invokevirtual index) mk (Value.ref b :: argsL).toArray X₁ hg hsize hdg hW (X₁.named hnamed) (hpre vm₁ X₁.warmed) with ⟨v, B, X', hpost, hsteps⟩ | ⟨q, B, X', hpost, hsteps⟩
  · exact Or.inl ⟨v, vm₁, B, X₁.warmed, X', hpost, fun target h => hstep₁ _ fun acts => by rw [doInvoke_state]; exact hsteps.trans h⟩
  · exact Or.inr ⟨q, vm₁, B, X₁.warmed, X', hpost, hstep₁ _ fun acts => by rw [doInvoke_state]; exact hsteps⟩
theorem vx_callS (X : Stand p l e R s m args below meth c T locs cells slots) (hexec : p.tables.exec = Jvm.exec) {own : String} {index : Nat} {y : MethodName} {bytes : ByteArray} {maxL : Nat} {ret : Option FieldType}
    (hown : s.vm.findClass own = some m.cls) (hlink : (Cond.methodLink own index y).before args s = true) (hstat : (Cond.static y).before args s = true) (hinit : (Cond.initialized y.cls).before args s = true)
    (hcode : (Cond.code y bytes maxL ret).before args s = true) (hy : y.cls ≠ "java/lang/invoke/MethodHandle" ∧ y.cls ≠ "java/lang/invoke/VarHandle")
    {W9 : Nat} {Pre : Pt → Array Value → Prop} {Post : Pt → Array Value → Option Value → Pt → Prop} {PostX : Pt → Array Value → Addr → Pt → Prop} (hK : vx_Back l R p e below s args y 3 W9 Pre Post PostX)
    {g : JFrame} (hg : g.method = m) (hsize : g.locals.size = c.maxLocals) {argsL rest : List Value} (hlen : ∀ sig, parseMethodDescriptor y.desc = some sig → argsL.length = sig.parameters.length)
    (hstack : g.stack = argsL.reverse ++ rest) (hW : 2 * g.monitorRoom + (rest.map fun v => v.category).sum ≤ W9) (hdg : decode c.code g.pc = .ok (.invokestatic index, 3))
    (hpre : ∀ vm₁, s.WarmedH vm₁ → Pre ⟨T.setVm vm₁, locs, cells, slots⟩ argsL.toArray) :
    (∃ (v : Option Value) (vm₁ : Vm) (B : Pt), s.WarmedH vm₁ ∧ Stand p l e R s m args below meth c B.U B.locs B.cells B.slots ∧ Post ⟨T.setVm vm₁, locs, cells, slots⟩ argsL.toArray v B ∧
      ∀ target, Steps p.tables e below (B.U.setTop { g with pc := g.pc + 3, stack := v.toList ++ rest }) target → Steps p.tables e below (T.setTop g) target) ∨
    (∃ (q : Addr) (vm₁ : Vm) (B : Pt), s.WarmedH vm₁ ∧ Stand p l e R s m args below meth c B.U B.locs B.cells B.slots ∧ PostX ⟨T.setVm vm₁, locs, cells, slots⟩ argsL.toArray q B ∧
      Steps p.tables e below (T.setTop g) ((B.U.setTop { g with stack := rest }).pushFrame (.throwing q))) := by
  obtain ⟨mk, hnamed⟩ := Cond.code_named hcode
  obtain ⟨methM, cM, hmethM, -, -, -, -, -, -, hsigM⟩ := Cond.code_spec hnamed hcode
  have hstatic : methM.isStatic = true := Cond.static_spec hnamed hmethM hstat
  obtain ⟨kP, hkP, -⟩ := className_of_methodNamed hnamed
  have hinitP : kP.init = .initialized := Cond.initialized_spec (findClass_of_methodNamed hnamed) hkP hinit
  obtain ⟨vm₁, X₁, hstep₁⟩ := X.invokestatic hexec hown hlink hnamed hmethM hstatic hkP hinitP hy (g := g) hg (argsL := argsL) (rest := rest) (hlen _ hsigM) hstack hdg
  rcases hK m meth c ⟨T.setVm vm₁, locs, cells, slots⟩ { g with stack := rest } (.invokestatic index) mk argsL.toArray X₁ hg hsize hdg hW (X₁.named hnamed) (hpre vm₁ X₁.warmed) with ⟨v, B, X', hpost, hsteps⟩ | ⟨q, B, X', hpost, hsteps⟩
  · exact Or.inl ⟨v, vm₁, B, X₁.warmed, X', hpost, fun target h => hstep₁ _ fun acts => by rw [doInvoke_state]; exact hsteps.trans h⟩
  · exact Or.inr ⟨q, vm₁, B, X₁.warmed, X', hpost, hstep₁ _ fun acts => by rw [doInvoke_state]; exact hsteps⟩
end Calls
theorem vx_cls {s : State} {T : State} {vm₁ : Vm} {E : String} {k : ClassId} (hW : s.WarmedH vm₁) (h : (T.setVm vm₁).vm.findClass E = some k) : s.vm.findClass E = some k := by
  have h1 : vm₁.findClass E = some k := h
  rw [hW.alike.findClass] at h1
  exact h1
/-- the method's frame g, with q thrown over it -/
def vx_W (p : Program) (l : Launch) (e : Env) (R : Room) (s : State) (m : MethodId) (args : Array Value) (below : List Frame) (meth : Method) (c : Code) (H : Heap) (locs : List Loc) (cells slots : Nat) (Q : State → Prop) (g : JFrame) (q : Addr) : Prop :=
  ∀ T : State, T.heap = H → Stand p l e R s m args below meth c T locs cells slots → ∃ t, Steps p.tables e below ((T.setTop g).pushFrame (.throwing q)) t ∧ Q t
def vx_Run (p : Program) (l : Launch) (e : Env) (R : Room) (s : State) (m : MethodId) (args : Array Value) (below : List Frame) (meth : Method) (c : Code) (H : Heap) (locs : List Loc) (cells slots mc ms : Nat) (g : JFrame) (rest : List Value) (Qa : State → Outcome → State → Prop) (XC : String → State → State → Prop) (free : Addr → Prop) : Prop :=
  ∀ T : State, T.heap = H → Stand p l e R s m args below meth c T locs cells slots →
    (∃ (v : Option Value) (st₀ t T' : State) (L : List Loc), st₀.heap = H ∧ Stand p l e R s m args below meth c T' (locs ++ L) (cells + mc) (slots + ms) ∧ (∀ q ∈ L, free q.base) ∧ T'.heap = t.heap ∧ T'.vm = t.vm ∧ Qa st₀ (.returned v) t ∧
      Goes p e below T g T' { g with pc := g.pc + 3, stack := v.toList ++ rest }) ∨
    (∃ (q : Addr) (st₀ t T' : State) (L : List Loc) (E : String) (ce : Cell), st₀.heap = H ∧ Stand p l e R s m args below meth c T' (locs ++ L) (cells + mc) (slots + ms) ∧ (∀ z ∈ L, free z.base) ∧ T'.heap = t.heap ∧ T'.vm = t.vm ∧ XC E st₀ t ∧ t.heap[q]? = some ce ∧ ce.vm = .none ∧ s.vm.findClass E = some ce.cls ∧
      Steps p.tables e below (T.setTop g) ((T'.setTop { g with stack := rest }).pushFrame (.throwing q)))
def vx_X {S : Type} (px : S → Prop) (B : String → S → State → Prop) (A : Nat → Prop) : String → State → State → Prop := fun E st t => ∃ u : S, px u ∧ B E u t ∧ va_F A st t
section Runs
variable {p : Program} {l : Launch} {e : Env} {R : Room} {s : State} {m : MethodId} {args : Array Value} {below : List Frame} {meth : Method} {c : Code} {H : Heap} {locs : List Loc} {cells slots : Nat}
variable {y : MethodName} {bytes cc : ByteArray} {maxL nL mc ms n index : Nat} {ret : Option FieldType} {ws : List Cond} {rm : Room} {Pc : Array Value → State → Prop} {Qc : Array Value → State → Outcome → State → Prop} {XC : String → State → State → Prop} {free : Addr → Prop} {Ts : List Cond} {own C : String} {b : Addr} {As rest : List Value} {g : JFrame}
theorem vx_callBack (cb : CallB R s args own index y bytes maxL ret ws rm mc ms n) (hM : vx_Met l y ws rm Pc Qc XC mc ms free) (hbl : FrameBlind Pc) : vx_Back l R p e below s args y 3 8 (PreOf R mc ms Pc) (PostOf Qc mc ms free) (vx_Post XC mc ms free) := by
  obtain ⟨hrc, hrs, hfr, hlo, hws, hcw, -, hini, -⟩ := cb
  exact vx_back (bytes := bytes) (maxL := maxL) (ret := ret) hM hbl hrc hrs hfr hlo hws hcw (fun a' U hW => word_at hW (Or.inl (by first | rfl | simp [Cond.onTables, Cond.keeps, Cond.steady])) hini)
theorem vx_runV (S : CallFix p m c cc nL s args Ts own) (hM : vx_Met l y ws rm Pc Qc XC mc ms free) (cw : CallW R s args own C index y bytes maxL ret ws rm mc ms n) (hp : PreV s H C b Pc As)
    (hg : g.method = m) (hn : As.length = n) (hsize : g.locals.size = nL) (hstack : g.stack = As.reverse ++ .ref b :: rest) (hW : 2 * g.monitorRoom + (rest.map fun v => v.category).sum ≤ 8) (hdg : decode cc g.pc = .ok (.invokevirtual index, 3)) (hf : cells + mc ≤ R.cells ∧ slots + ms ≤ R.slots) :
    vx_Run p l e R s m args below meth c H locs cells slots mc ms g rest (Qc (Value.ref b :: As).toArray) XC free := by
  have hK : vx_Back l R p e below s args y 3 8 (PreOf R mc ms Pc) (PostOf Qc mc ms free) (vx_Post XC mc ms free) := vx_callBack cw.1 hM hp.1
  obtain ⟨⟨-, -, -, -, -, -, hcode, -, hy, hlen, hl⟩, hin, hse⟩ := cw
  obtain ⟨hx, hb, hml, ho, -⟩ := S
  obtain ⟨-, ⟨cellB, hcB, hoB, hclB⟩, hPc⟩ := hp
  intro T hT X
  rcases vx_callV X hx (C := C) (bytes := bytes) (maxL := maxL) (ret := ret) ho hl hin hse hcode hy hK (by rw [hT]; exact hcB) hoB hclB hg (hsize.trans hml.symm) (argsL := As) (rest := rest) (fun sig h => hn.trans (hlen sig h)) hstack hW (by rw [hb]; exact hdg)
    (fun vm₁ hW₁ => ⟨hf.1, hf.2, hPc (T.setVm vm₁) hT hW₁⟩) with ⟨v, vm₁, ⟨U', l2, c2, s2⟩, hW₁, X', ⟨g', mk, t, L, e1, e2, hq, h1, hL, h2, h3⟩, st⟩ | ⟨q, vm₁, ⟨U', l2, c2, s2⟩, hW₁, X', ⟨g', mk, t, L, E, ce, e1, e2, hq, hce, hcv, hcl, h1, hL, h2, h3⟩, st⟩
  · dsimp only [Pt.U, Pt.locs, Pt.cells, Pt.slots] at X' e1 e2 h1 h2 h3 st
    subst h1; subst h2; subst h3
    exact Or.inl ⟨v, (T.setVm vm₁).calling g' mk (Value.ref b :: As).toArray, t, U', L, hT, X', hL, e1, e2, hq, st⟩
  · dsimp only [Pt.U, Pt.locs, Pt.cells, Pt.slots] at X' e1 e2 h1 h2 h3 st hcl
    subst h1; subst h2; subst h3
    exact Or.inr ⟨q, (T.setVm vm₁).calling g' mk (Value.ref b :: As).toArray, t, U', L, E, ce, hT, X', hL, e1, e2, hq, hce, hcv, vx_cls hW₁ hcl, st⟩
theorem vx_runS (S : CallFix p m c cc nL s args Ts own) (hM : vx_Met l y ws rm Pc Qc XC mc ms free) (cw : CallB R s args own index y bytes maxL ret ws rm mc ms n ∧ (Cond.static y).before args s = true) (hp : PreS s H Pc As)
    (hg : g.method = m) (hn : As.length = n) (hsize : g.locals.size = nL) (hstack : g.stack = As.reverse ++ rest) (hW : 2 * g.monitorRoom + (rest.map fun v => v.category).sum ≤ 8) (hdg : decode cc g.pc = .ok (.invokestatic index, 3)) (hf : cells + mc ≤ R.cells ∧ slots + ms ≤ R.slots) :
    vx_Run p l e R s m args below meth c H locs cells slots mc ms g rest (Qc As.toArray) XC free := by
  have hK : vx_Back l R p e below s args y 3 8 (PreOf R mc ms Pc) (PostOf Qc mc ms free) (vx_Post XC mc ms free) := vx_callBack cw.1 hM hp.1
  obtain ⟨⟨-, -, -, -, -, -, hcode, hini, hy, hlen, hl⟩, hstt⟩ := cw
  obtain ⟨hx, hb, hml, ho, -⟩ := S
  intro T hT X
  rcases vx_callS X hx (bytes := bytes) (maxL := maxL) (ret := ret) ho hl hstt hini hcode hy hK hg (hsize.trans hml.symm) (argsL := As) (rest := rest) (fun sig h => hn.trans (hlen sig h)) hstack hW (by rw [hb]; exact hdg)
    (fun vm₁ hW₁ => ⟨hf.1, hf.2, hp.2 (T.setVm vm₁) hT hW₁⟩) with ⟨v, vm₁, ⟨U', l2, c2, s2⟩, hW₁, X', ⟨g', mk, t, L, e1, e2, hq, h1, hL, h2, h3⟩, st⟩ | ⟨q, vm₁, ⟨U', l2, c2, s2⟩, hW₁, X', ⟨g', mk, t, L, E, ce, e1, e2, hq, hce, hcv, hcl, h1, hL, h2, h3⟩, st⟩
  · dsimp only [Pt.U, Pt.locs, Pt.cells, Pt.slots] at X' e1 e2 h1 h2 h3 st
    subst h1; subst h2; subst h3
    exact Or.inl ⟨v, (T.setVm vm₁).calling g' mk As.toArray, t, U', L, hT, X', hL, e1, e2, hq, st⟩
  · dsimp only [Pt.U, Pt.locs, Pt.cells, Pt.slots] at X' e1 e2 h1 h2 h3 st hcl
    subst h1; subst h2; subst h3
    exact Or.inr ⟨q, (T.setVm vm₁).calling g' mk As.toArray, t, U', L, E, ce, hT, X', hL, e1, e2, hq, hce, hcv, vx_cls hW₁ hcl, st⟩
end Runs
section Rows
variable {p : Program} {l : Launch} {e : Env} {R : Room} {s : State} {m : MethodId} {args : Array Value} {below : List Frame} {meth : Method} {c : Code} {H : Heap} {locs : List Loc} {cells slots : Nat} {Q : State → Prop}
variable {mc ms : Nat} {free : Addr → Prop} {A0 A1 : Nat → Prop} {H0 : Heap} {a : Array Value} {pc : Nat} {ls : Array Slot} {st0 rest : List Value}
theorem vx_keep {st₀ t T' : State} {L : List Loc} (h0 : st₀.heap = H) (e1 : T'.heap = t.heap) (hS : va_S A0 H0 H locs) (hA : ∀ q, q < H.size → A1 q → A0 q) (hf : ∀ q, free q → A0 q) (hL : ∀ q ∈ L, free q.base) (hF : va_F A1 st₀ t) :
    H.size ≤ T'.heap.size ∧ (∀ q : Nat, q < H.size → ¬ A1 q → T'.heap[q]? = H[q]?) ∧ va_S A0 H0 T'.heap (locs ++ L) := by
  obtain ⟨hz, hk⟩ := hF
  rw [h0] at hz hk
  exact ⟨by rw [e1]; exact hz, fun q h1 h2 => by rw [e1]; exact hk q h1 h2,
    ⟨Nat.le_trans hS.1 (by rw [e1]; exact hz), fun q h1 h2 => by rw [e1, hk q (Nat.lt_of_lt_of_le h1 hS.1) (fun z => h2 (hA q (Nat.lt_of_lt_of_le h1 hS.1) z))]; exact hS.2.1 q h1 h2, fun q hq => by
      rcases List.mem_append.mp hq with h | h
      · exact hS.2.2 q h
      · exact hf _ (hL q h)⟩⟩
theorem vx_calli {S SX : Type} {post : Int32 → S → Prop} {px : SX → Prop} {B : S → State → Prop} {BX : String → SX → State → Prop} {AX : Nat → Prop} (hr : vx_Run p l e R s m args below meth c H locs cells slots mc ms (F0 m pc ls st0) rest (va_Qi post B A1 a) (vx_X px BX AX) free) (hS : va_S A0 H0 H locs) (hA : ∀ q, q < H.size → A1 q → A0 q) (hf : ∀ q, free q → A0 q) (hAX : ∀ q, q < H.size → AX q → A0 q)
    (kx : ∀ (E : String) (ce : Cell) (q9 : Addr) (u : SX) (t : State) (H1 : Heap) (locs1 : List Loc), t.heap = H1 → s.vm.Alike t.vm → px u → BX E u t → H.size ≤ H1.size → (∀ q : Nat, q < H.size → ¬ AX q → H1[q]? = H[q]?) → va_S A0 H0 H1 locs1 → H1[q9]? = some ce → ce.vm = .none → s.vm.findClass E = some ce.cls → vx_W p l e R s m args below meth c H1 locs1 (cells + mc) (slots + ms) Q (F0 m pc ls rest) q9)
    (kk : ∀ (r : Int32) (u : S) (t : State) (H1 : Heap) (locs1 : List Loc), t.heap = H1 → s.vm.Alike t.vm → post r u → B u t → H.size ≤ H1.size → (∀ q : Nat, q < H.size → ¬ A1 q → H1[q]? = H[q]?) → va_S A0 H0 H1 locs1 → W p l e R s m args below meth c H1 locs1 (cells + mc) (slots + ms) Q (F0 m (pc + 3) ls (.int r :: rest))) : W p l e R s m args below meth c H locs cells slots Q (F0 m pc ls st0) := by
  intro T hT X
  rcases hr T hT X with ⟨v, st₀, t, T', L, h0, X', hL, e1, e2, ⟨⟨r, u, hv, hp, hb⟩, hF⟩, st⟩ | ⟨q, st₀, t, T', L, E, ce, h0, X', hL, e1, e2, ⟨u, hp, hb, hF⟩, hce, hcv, hcl, st⟩
  · cases hv
    obtain ⟨k1, k2, k3⟩ := vx_keep h0 e1 hS hA hf hL hF
    obtain ⟨t2, a1, b1⟩ := kk r u t T'.heap (locs ++ L) e1.symm (by rw [← e2]; exact X'.warmed.alike) hp hb k1 k2 k3 T' rfl X'
    exact ⟨t2, st t2 a1, b1⟩
  · obtain ⟨k1, k2, k3⟩ := vx_keep h0 e1 hS hAX hf hL hF
    obtain ⟨t2, a1, b1⟩ := kx E ce q u t T'.heap (locs ++ L) e1.symm (by rw [← e2]; exact X'.warmed.alike) hp hb k1 k2 k3 (by rw [e1]; exact hce) hcv hcl T' rfl X'
    exact ⟨t2, st.trans a1, b1⟩
theorem vx_calll {S SX : Type} {post : Int64 → S → Prop} {px : SX → Prop} {B : S → State → Prop} {BX : String → SX → State → Prop} {AX : Nat → Prop} (hr : vx_Run p l e R s m args below meth c H locs cells slots mc ms (F0 m pc ls st0) rest (va_Ql post B A1 a) (vx_X px BX AX) free) (hS : va_S A0 H0 H locs) (hA : ∀ q, q < H.size → A1 q → A0 q) (hf : ∀ q, free q → A0 q) (hAX : ∀ q, q < H.size → AX q → A0 q)
    (kx : ∀ (E : String) (ce : Cell) (q9 : Addr) (u : SX) (t : State) (H1 : Heap) (locs1 : List Loc), t.heap = H1 → s.vm.Alike t.vm → px u → BX E u t → H.size ≤ H1.size → (∀ q : Nat, q < H.size → ¬ AX q → H1[q]? = H[q]?) → va_S A0 H0 H1 locs1 → H1[q9]? = some ce → ce.vm = .none → s.vm.findClass E = some ce.cls → vx_W p l e R s m args below meth c H1 locs1 (cells + mc) (slots + ms) Q (F0 m pc ls rest) q9)
    (kk : ∀ (r : Int64) (u : S) (t : State) (H1 : Heap) (locs1 : List Loc), t.heap = H1 → s.vm.Alike t.vm → post r u → B u t → H.size ≤ H1.size → (∀ q : Nat, q < H.size → ¬ A1 q → H1[q]? = H[q]?) → va_S A0 H0 H1 locs1 → W p l e R s m args below meth c H1 locs1 (cells + mc) (slots + ms) Q (F0 m (pc + 3) ls (.long r :: rest))) : W p l e R s m args below meth c H locs cells slots Q (F0 m pc ls st0) := by
  intro T hT X
  rcases hr T hT X with ⟨v, st₀, t, T', L, h0, X', hL, e1, e2, ⟨⟨r, u, hv, hp, hb⟩, hF⟩, st⟩ | ⟨q, st₀, t, T', L, E, ce, h0, X', hL, e1, e2, ⟨u, hp, hb, hF⟩, hce, hcv, hcl, st⟩
  · cases hv
    obtain ⟨k1, k2, k3⟩ := vx_keep h0 e1 hS hA hf hL hF
    obtain ⟨t2, a1, b1⟩ := kk r u t T'.heap (locs ++ L) e1.symm (by rw [← e2]; exact X'.warmed.alike) hp hb k1 k2 k3 T' rfl X'
    exact ⟨t2, st t2 a1, b1⟩
  · obtain ⟨k1, k2, k3⟩ := vx_keep h0 e1 hS hAX hf hL hF
    obtain ⟨t2, a1, b1⟩ := kx E ce q u t T'.heap (locs ++ L) e1.symm (by rw [← e2]; exact X'.warmed.alike) hp hb k1 k2 k3 (by rw [e1]; exact hce) hcv hcl T' rfl X'
    exact ⟨t2, st.trans a1, b1⟩
theorem vx_callf {S SX : Type} {post : UInt32 → S → Prop} {px : SX → Prop} {B : S → State → Prop} {BX : String → SX → State → Prop} {AX : Nat → Prop} (hr : vx_Run p l e R s m args below meth c H locs cells slots mc ms (F0 m pc ls st0) rest (va_Qf post B A1 a) (vx_X px BX AX) free) (hS : va_S A0 H0 H locs) (hA : ∀ q, q < H.size → A1 q → A0 q) (hf : ∀ q, free q → A0 q) (hAX : ∀ q, q < H.size → AX q → A0 q)
    (kx : ∀ (E : String) (ce : Cell) (q9 : Addr) (u : SX) (t : State) (H1 : Heap) (locs1 : List Loc), t.heap = H1 → s.vm.Alike t.vm → px u → BX E u t → H.size ≤ H1.size → (∀ q : Nat, q < H.size → ¬ AX q → H1[q]? = H[q]?) → va_S A0 H0 H1 locs1 → H1[q9]? = some ce → ce.vm = .none → s.vm.findClass E = some ce.cls → vx_W p l e R s m args below meth c H1 locs1 (cells + mc) (slots + ms) Q (F0 m pc ls rest) q9)
    (kk : ∀ (r : UInt32) (u : S) (t : State) (H1 : Heap) (locs1 : List Loc), t.heap = H1 → s.vm.Alike t.vm → post r u → B u t → H.size ≤ H1.size → (∀ q : Nat, q < H.size → ¬ A1 q → H1[q]? = H[q]?) → va_S A0 H0 H1 locs1 → W p l e R s m args below meth c H1 locs1 (cells + mc) (slots + ms) Q (F0 m (pc + 3) ls (.float r :: rest))) : W p l e R s m args below meth c H locs cells slots Q (F0 m pc ls st0) := by
  intro T hT X
  rcases hr T hT X with ⟨v, st₀, t, T', L, h0, X', hL, e1, e2, ⟨⟨r, u, hv, hp, hb⟩, hF⟩, st⟩ | ⟨q, st₀, t, T', L, E, ce, h0, X', hL, e1, e2, ⟨u, hp, hb, hF⟩, hce, hcv, hcl, st⟩
  · cases hv
    obtain ⟨k1, k2, k3⟩ := vx_keep h0 e1 hS hA hf hL hF
    obtain ⟨t2, a1, b1⟩ := kk r u t T'.heap (locs ++ L) e1.symm (by rw [← e2]; exact X'.warmed.alike) hp hb k1 k2 k3 T' rfl X'
    exact ⟨t2, st t2 a1, b1⟩
  · obtain ⟨k1, k2, k3⟩ := vx_keep h0 e1 hS hAX hf hL hF
    obtain ⟨t2, a1, b1⟩ := kx E ce q u t T'.heap (locs ++ L) e1.symm (by rw [← e2]; exact X'.warmed.alike) hp hb k1 k2 k3 (by rw [e1]; exact hce) hcv hcl T' rfl X'
    exact ⟨t2, st.trans a1, b1⟩
theorem vx_calld {S SX : Type} {post : UInt64 → S → Prop} {px : SX → Prop} {B : S → State → Prop} {BX : String → SX → State → Prop} {AX : Nat → Prop} (hr : vx_Run p l e R s m args below meth c H locs cells slots mc ms (F0 m pc ls st0) rest (va_Qd post B A1 a) (vx_X px BX AX) free) (hS : va_S A0 H0 H locs) (hA : ∀ q, q < H.size → A1 q → A0 q) (hf : ∀ q, free q → A0 q) (hAX : ∀ q, q < H.size → AX q → A0 q)
    (kx : ∀ (E : String) (ce : Cell) (q9 : Addr) (u : SX) (t : State) (H1 : Heap) (locs1 : List Loc), t.heap = H1 → s.vm.Alike t.vm → px u → BX E u t → H.size ≤ H1.size → (∀ q : Nat, q < H.size → ¬ AX q → H1[q]? = H[q]?) → va_S A0 H0 H1 locs1 → H1[q9]? = some ce → ce.vm = .none → s.vm.findClass E = some ce.cls → vx_W p l e R s m args below meth c H1 locs1 (cells + mc) (slots + ms) Q (F0 m pc ls rest) q9)
    (kk : ∀ (r : UInt64) (u : S) (t : State) (H1 : Heap) (locs1 : List Loc), t.heap = H1 → s.vm.Alike t.vm → post r u → B u t → H.size ≤ H1.size → (∀ q : Nat, q < H.size → ¬ A1 q → H1[q]? = H[q]?) → va_S A0 H0 H1 locs1 → W p l e R s m args below meth c H1 locs1 (cells + mc) (slots + ms) Q (F0 m (pc + 3) ls (.double r :: rest))) : W p l e R s m args below meth c H locs cells slots Q (F0 m pc ls st0) := by
  intro T hT X
  rcases hr T hT X with ⟨v, st₀, t, T', L, h0, X', hL, e1, e2, ⟨⟨r, u, hv, hp, hb⟩, hF⟩, st⟩ | ⟨q, st₀, t, T', L, E, ce, h0, X', hL, e1, e2, ⟨u, hp, hb, hF⟩, hce, hcv, hcl, st⟩
  · cases hv
    obtain ⟨k1, k2, k3⟩ := vx_keep h0 e1 hS hA hf hL hF
    obtain ⟨t2, a1, b1⟩ := kk r u t T'.heap (locs ++ L) e1.symm (by rw [← e2]; exact X'.warmed.alike) hp hb k1 k2 k3 T' rfl X'
    exact ⟨t2, st t2 a1, b1⟩
  · obtain ⟨k1, k2, k3⟩ := vx_keep h0 e1 hS hAX hf hL hF
    obtain ⟨t2, a1, b1⟩ := kx E ce q u t T'.heap (locs ++ L) e1.symm (by rw [← e2]; exact X'.warmed.alike) hp hb k1 k2 k3 (by rw [e1]; exact hce) hcv hcl T' rfl X'
    exact ⟨t2, st.trans a1, b1⟩
theorem vx_callv {S SX : Type} {post : S → Prop} {px : SX → Prop} {B : S → State → Prop} {BX : String → SX → State → Prop} {AX : Nat → Prop} (hr : vx_Run p l e R s m args below meth c H locs cells slots mc ms (F0 m pc ls st0) rest (va_Qv post B A1 a) (vx_X px BX AX) free) (hS : va_S A0 H0 H locs) (hA : ∀ q, q < H.size → A1 q → A0 q) (hf : ∀ q, free q → A0 q) (hAX : ∀ q, q < H.size → AX q → A0 q)
    (kx : ∀ (E : String) (ce : Cell) (q9 : Addr) (u : SX) (t : State) (H1 : Heap) (locs1 : List Loc), t.heap = H1 → s.vm.Alike t.vm → px u → BX E u t → H.size ≤ H1.size → (∀ q : Nat, q < H.size → ¬ AX q → H1[q]? = H[q]?) → va_S A0 H0 H1 locs1 → H1[q9]? = some ce → ce.vm = .none → s.vm.findClass E = some ce.cls → vx_W p l e R s m args below meth c H1 locs1 (cells + mc) (slots + ms) Q (F0 m pc ls rest) q9)
    (kk : ∀ (u : S) (t : State) (H1 : Heap) (locs1 : List Loc), t.heap = H1 → s.vm.Alike t.vm → post u → B u t → H.size ≤ H1.size → (∀ q : Nat, q < H.size → ¬ A1 q → H1[q]? = H[q]?) → va_S A0 H0 H1 locs1 → W p l e R s m args below meth c H1 locs1 (cells + mc) (slots + ms) Q (F0 m (pc + 3) ls (rest))) : W p l e R s m args below meth c H locs cells slots Q (F0 m pc ls st0) := by
  intro T hT X
  rcases hr T hT X with ⟨v, st₀, t, T', L, h0, X', hL, e1, e2, ⟨⟨u, hv, hp, hb⟩, hF⟩, st⟩ | ⟨q, st₀, t, T', L, E, ce, h0, X', hL, e1, e2, ⟨u, hp, hb, hF⟩, hce, hcv, hcl, st⟩
  · cases hv
    obtain ⟨k1, k2, k3⟩ := vx_keep h0 e1 hS hA hf hL hF
    obtain ⟨t2, a1, b1⟩ := kk u t T'.heap (locs ++ L) e1.symm (by rw [← e2]; exact X'.warmed.alike) hp hb k1 k2 k3 T' rfl X'
    exact ⟨t2, st t2 a1, b1⟩
  · obtain ⟨k1, k2, k3⟩ := vx_keep h0 e1 hS hAX hf hL hF
    obtain ⟨t2, a1, b1⟩ := kx E ce q u t T'.heap (locs ++ L) e1.symm (by rw [← e2]; exact X'.warmed.alike) hp hb k1 k2 k3 (by rw [e1]; exact hce) hcv hcl T' rfl X'
    exact ⟨t2, st.trans a1, b1⟩
/-- caught by the row x of this method's table; the rows ahead don't take it -/
theorem vx_catch {own name : String} {E : String} {ce : Cell} {q : Addr} (hown : s.vm.findClass own = some m.cls) (pre : List ExceptionTableEntry) (x : ExceptionTableEntry) (suf : List ExceptionTableEntry) (hsplit : c.exceptionTable.toList = pre ++ x :: suf)
    (hpass : ∀ z ∈ pre, covers z pc = false ∨ (z.catchType ≠ 0 ∧ ∃ nm : String, (Cond.classLink own z.catchType nm).before args s = true ∧ va_Nc E nm s)) (hx : covers x pc = true) (h0 : x.catchType ≠ 0)
    (hlink : (Cond.classLink own x.catchType name).before args s = true) (hcast : (Cond.castable E name).before args s = true) (hcell : H[q]? = some ce) (hv : ce.vm = .none) (hcl : s.vm.findClass E = some ce.cls)
    (kk : W p l e R s m args below meth c H locs cells slots Q (F0 m x.handlerPc ls [.ref q])) : vx_W p l e R s m args below meth c H locs cells slots Q (F0 m pc ls rest) q := by
  intro T hT X
  have hpl : e.platform.magicAccessors = ({} : Platform).magicAccessors := by rw [X.admits.platform]
  obtain ⟨c3, c4, hc3, hc4, hasg⟩ := Cond.castable_spec hcast
  cases Option.some.inj (hc3.symm.trans hcl)
  obtain ⟨c5, hc5, hcl5⟩ := Cond.classLink_spec hown hlink e.platform hpl
  cases Option.some.inj (hc4.symm.trans hc5)
  obtain ⟨vm', X', st⟩ := X.thenCaughtThrough q (g := F0 m pc ls rest) rfl (Steps.refl _) (by rw [hT]; exact hcell) (by rw [hv]; rfl) (by obtain ⟨k9, h9, -⟩ := Vm.findClass_spec hcl; exact ⟨k9, h9⟩) pre x suf hsplit
    (fun z hz => by
      rcases hpass z hz with h | ⟨hz0, nm, hl1, hn1⟩
      · exact Or.inl h
      · obtain ⟨c6, hc6, hcl6⟩ := Cond.classLink_spec hown hl1 e.platform hpl
        obtain ⟨a8, b8, h1, h2, h3⟩ := hn1
        cases Option.some.inj (h1.symm.trans hcl)
        cases Option.some.inj (h2.symm.trans hc6)
        exact Or.inr ⟨hz0, _, hcl6, h3⟩) hx (Or.inr ⟨h0, c4, hcl5, hasg⟩)
  obtain ⟨t, a1, b1⟩ := kk (T.setVm vm') hT X'
  exact ⟨t, st.trans a1, b1⟩
end Rows
section Ends
variable {p : Program} {l : Launch} {e : Env} {R : Room} {s : State} {m : MethodId} {args : Array Value} {below : List Frame} {meth : Method} {c : Code} {H : Heap} {locs : List Loc} {cells slots : Nat} {Q : State → Prop}
variable {mc ms : Nat} {free : Addr → Prop} {A0 A1 : Nat → Prop} {H0 : Heap} {a : Array Value} {ls : Array Slot} {st0 rest : List Value}
variable {Qc : Array Value → State → Outcome → State → Prop} {XC : String → State → State → Prop}
/-- what a body that may throw owes at its end -/
def vx_MQ (below : List Frame) (Qc : Array Value → State → Outcome → State → Prop) (XC : String → State → State → Prop) (a : Array Value) (s : State) (mc ms : Nat) (free : Addr → Prop) : State → Prop := fun t =>
  ∃ o, t.status = .running ∧ Ended t below o ∧ vx_Q Qc XC mc ms free a s o t
theorem vx_ret {g : JFrame} {mc ms : Nat} (k : W p l e R s m args below meth c H locs cells slots (MQ below Qc args s mc ms free) g) : W p l e R s m args below meth c H locs cells slots (vx_MQ below Qc XC args s mc ms free) g := by
  intro T hT X
  obtain ⟨t, a1, o, b1, b2, b3, b4⟩ := k T hT X
  exact ⟨t, a1, o, b1, b2, Or.inl ⟨b3, b4⟩⟩
/-- not caught here: it goes on to the caller -/
theorem vx_widen {g : JFrame} {q : Addr} {k n : Nat} (h1 : cells ≤ k) (h2 : slots ≤ n) (kk : vx_W p l e R s m args below meth c H locs k n Q g q) : vx_W p l e R s m args below meth c H locs cells slots Q g q := fun T hT X => kk T hT (stand_widen X h1 h2)
theorem vx_out {pc : Nat} {E : String} {ce : Cell} {q : Addr} {mc ms : Nat} (hout : ∀ x ∈ c.exceptionTable.toList, covers x pc = false) (hlocks : meth.locks = false) (hcell : H[q]? = some ce) (hv : ce.vm = .none) (hcl : s.vm.findClass E = some ce.cls)
    (hx : ∀ t : State, t.heap = H → s.vm.Alike t.vm → XC E s t) (hf : ∀ z ∈ locs, free z.base) (hc : cells ≤ mc) (hs : slots ≤ ms) :
    vx_W p l e R s m args below meth c H locs cells slots (vx_MQ below Qc XC args s mc ms free) (F0 m pc ls rest) q := by
  intro T hT X
  obtain ⟨st1, hrun, hend, hW, hsm⟩ := X.leaveThrown q (g := F0 m pc ls rest) rfl rfl rfl hout hlocks
  have hcell9 : (T.setFrames (.throwing q :: below)).heap[q]? = some ce := by
    show T.heap[q]? = some ce
    rw [hT]; exact hcell
  exact ⟨_, st1, .threw q, hrun, hend, Or.inr ⟨q, rfl, E, ce, locs, hx _ hT hW.alike, hcell9, hv, hcl, hW, hsm.mono hc hs, hf⟩⟩
theorem vx_frame {U : State} {k n : Nat} (h : s.sameButNew ({ U with vm := s.vm } : State) locs k n) : s.heap.size ≤ U.heap.size ∧ ∀ q : Nat, q < s.heap.size → (∀ z ∈ locs, z.base ≠ q) → U.heap[q]? = s.heap[q]? := by
  obtain ⟨-, h2, -, -, -, h6⟩ := h
  refine ⟨h2, fun q hq hz => ?_⟩
  obtain ⟨c9, e1, e2, e3, e4⟩ := h6 q _ (Array.getElem?_eq_getElem hq)
  have hs : c9.slots = (s.heap[q]).slots := Array.ext_getElem? fun i => e4 i fun hm => hz _ hm rfl
  have h9 : c9 = s.heap[q] := by
    rw [hs] at e2
    exact e2
  have e5 : U.heap[q]? = some c9 := e1
  rw [e5, h9, Array.getElem?_eq_getElem hq]
/-- the words of a throw but the four that speak of the heap -/
def vx_no (w : Cond) : Bool := decide (w ≠ .isRef (.static Bundle.tN "UNASSIGNED_STACK" Bundle.steD)) && decide (w ≠ .isRef (.static Bundle.tN "SUPPRESSED_SENTINEL" Bundle.listD)) && decide (w ≠ .laysStatic Bundle.tN "UNASSIGNED_STACK" Bundle.steD) && decide (w ≠ .laysStatic Bundle.tN "SUPPRESSED_SENTINEL" Bundle.listD)
def vx_at0 (own : String) (ic : Nat) (X : String) (names : List String) : List Cond := (Bundle.ownAtoms0 own ic X names).filter vx_no
def vx_atS (own : String) (ic : Nat) (X : String) (names : List String) : List Cond := (Bundle.ownAtoms own ic X names).filter vx_no
/-- a word that the tables alone decide, or a good one -/
def vx_ot (w : Cond) : Bool := w.onTables || goodWord w
theorem vx_ot_at {args a' : Array Value} {s U : State} {w : Cond} (hW : s.WarmedH U.vm) (hvm : s.vm = U.vm) (hg : vx_ot w = true) (h : w.before args s = true) : w.before a' U = true := by
  simp only [vx_ot, Bool.or_eq_true] at hg
  rcases hg with hg | hg
  · exact va_tabs hg hvm h
  · exact word_at hW (good_of_word hg) h
/-- a list's words: the good ones out of the method's own list, the others by premises of their own -/
theorem vx_hat {args : Array Value} {s : State} {L B : List Cond} (h1 : ∀ w ∈ L.filter goodWord, w.before args s = true) (h2 : ∀ w ∈ L.filter (fun w => !goodWord w), w ∈ B) (h3 : ∀ w ∈ B, w.before args s = true) : ∀ w ∈ L, w.before args s = true := by
  intro w hw
  by_cases g : goodWord w = true
  · exact h1 w (List.mem_filter.mpr ⟨hw, g⟩)
  · refine h3 w (h2 w (List.mem_filter.mpr ⟨hw, ?_⟩))
    show (!goodWord w) = true
    cases hgw : goodWord w
    · rfl
    · exact absurd hgw g
theorem vx_c {args : Array Value} {s : State} {w : Cond} {B : List Cond} (h : w.before args s = true) (t : ∀ w ∈ B, w.before args s = true) : ∀ w' ∈ w :: B, w'.before args s = true := fun w' h' => (List.mem_cons.mp h').elim (fun e => by rw [e]; exact h) (t w')
theorem vx_n {args : Array Value} {s : State} : ∀ w ∈ ([] : List Cond), w.before args s = true := fun _ h => nomatch h
theorem vx_own {args : Array Value} {s : State} {L : List Cond} (h1 : ∀ w ∈ L.filter vx_no, w.before args s = true)
    (hU : (Cond.isRef (.static Bundle.tN "UNASSIGNED_STACK" Bundle.steD)).before args s = true) (hN : (Cond.isRef (.static Bundle.tN "SUPPRESSED_SENTINEL" Bundle.listD)).before args s = true)
    (lU : (Cond.laysStatic Bundle.tN "UNASSIGNED_STACK" Bundle.steD).before args s = true) (lN : (Cond.laysStatic Bundle.tN "SUPPRESSED_SENTINEL" Bundle.listD).before args s = true) : ∀ w ∈ L, w.before args s = true := by
  intro w hw
  by_cases e1 : w = .isRef (.static Bundle.tN "UNASSIGNED_STACK" Bundle.steD)
  · rw [e1]; exact hU
  · by_cases e2 : w = .isRef (.static Bundle.tN "SUPPRESSED_SENTINEL" Bundle.listD)
    · rw [e2]; exact hN
    · by_cases e3 : w = .laysStatic Bundle.tN "UNASSIGNED_STACK" Bundle.steD
      · rw [e3]; exact lU
      · by_cases e4 : w = .laysStatic Bundle.tN "SUPPRESSED_SENTINEL" Bundle.listD
        · rw [e4]; exact lN
        · exact h1 w (List.mem_filter.mpr ⟨hw, by unfold vx_no; rw [decide_eq_true e1, decide_eq_true e2, decide_eq_true e3, decide_eq_true e4]; rfl⟩)
/-- where a static field lies, its class's statics cell in H -/
def vx_L (C n d : String) (A : Nat → Prop) (U : State) (H : Heap) : Prop := ∃ (c : ClassId) (k : Class) (i : Nat) (f : Field) (a : Nat) (cell : Cell), U.vm.findClass C = some c ∧ U.fieldFound? C n d = some (c, k, i, f) ∧ f.isStatic = true ∧ k.statics = some a ∧ H[a]? = some cell ∧ cell.vm.isStatics = true ∧ cell.cls = c ∧ f.slot < cell.slots.size ∧ k.staticTypes[f.slot]? = some f.type ∧ ¬ A a
theorem vx_L.moved {C n d : String} {A : Nat → Prop} {u U : State} {H : Heap} (hvm : u.vm.Alike U.vm) (h : vx_L C n d A u H) : vx_L C n d A U H := by
  obtain ⟨c, k, i, f, a, cell, h1, h2, h3, h4, h5, h6, h7, h8, h9, h10⟩ := h
  obtain ⟨k', hi', he⟩ := State.fieldFound?_setVm hvm h2
  exact ⟨c, k', i, f, a, cell, by rw [hvm.findClass]; exact h1, hi', h3, by rw [he]; exact h4, h5, h6, h7, h8, by rw [he]; exact h9, h10⟩
theorem vx_L.kept {C n d : String} {A : Nat → Prop} {U : State} {H H1 : Heap} (h : vx_L C n d A U H) (hq : ∀ a : Nat, a < H.size → ¬ A a → H1[a]? = H[a]?) : vx_L C n d A U H1 := by
  obtain ⟨c, k, i, f, a, cell, h1, h2, h3, h4, h5, h6, h7, h8, h9, h10⟩ := h
  exact ⟨c, k, i, f, a, cell, h1, h2, h3, h4, by rw [hq a (Array.getElem?_eq_some_iff.mp h5).1 h10]; exact h5, h6, h7, h8, h9, h10⟩
theorem vx_L.narrow {C n d : String} {A B : Nat → Prop} {U : State} {H : Heap} (h : vx_L C n d A U H) (hAB : ∀ q, B q → A q) : vx_L C n d B U H := by
  obtain ⟨c, k, i, f, a, cell, h1, h2, h3, h4, h5, h6, h7, h8, h9, h10⟩ := h
  exact ⟨c, k, i, f, a, cell, h1, h2, h3, h4, h5, h6, h7, h8, h9, fun z => h10 (hAB _ z)⟩
theorem vx_L.word {C n d : String} {A : Nat → Prop} {s : State} {args : Array Value} (h : vx_L C n d A s s.heap) : (Cond.laysStatic C n d).before args s = true := by
  obtain ⟨c, k, i, f, a, cell, h1, h2, h3, h4, h5, h6, h7, h8, h9, -⟩ := h
  show (Cond.laysStatic C n d).holds args s none s [] = true
  exact Cond.laysStatic_of h1 h2 h3 h4 h5 h6 h7 h8 h9
/-- .. and what it holds: null or some reference -/
def vx_Zq (C n d : String) (A : Nat → Prop) (U : State) (H : Heap) : Prop := va_Zq C n d A U H ∧ vx_L C n d A U H
theorem vx_Zq.moved {C n d : String} {A : Nat → Prop} {u U : State} {H : Heap} (hvm : u.vm.Alike U.vm) (h : vx_Zq C n d A u H) : vx_Zq C n d A U H := ⟨va_Zq.moved hvm h.1, vx_L.moved hvm h.2⟩
theorem vx_Zq.kept {C n d : String} {A : Nat → Prop} {U : State} {H H1 : Heap} (h : vx_Zq C n d A U H) (hq : ∀ a : Nat, a < H.size → ¬ A a → H1[a]? = H[a]?) : vx_Zq C n d A U H1 := ⟨va_Zq.kept h.1 hq, vx_L.kept h.2 hq⟩
theorem vx_Zq.narrow {C n d : String} {A B : Nat → Prop} {U : State} {H : Heap} (h : vx_Zq C n d A U H) (hAB : ∀ q, B q → A q) : vx_Zq C n d B U H := ⟨va_Zq.narrow h.1 hAB, vx_L.narrow h.2 hAB⟩
theorem vx_Zqof {args : Array Value} {s : State} {C n d : String} {A : Nat → Prop} (hl : (Cond.laysStatic C n d).before args s = true) (hini : (Cond.initialized C).before args s = true) (h : (Cond.isRef (.static C n d)).before args s = true) (hA : ∀ a : Nat, a < s.heap.size → ¬ A a) : vx_Zq C n d A s s.heap := by
  refine ⟨va_Zqof hl hini h hA, ?_⟩
  obtain ⟨c, k, i, f, a, cell, h1, h2, h3, h4, h5, h6, h7, h8, h9⟩ := Cond.laysStatic_spec hl
  exact ⟨c, k, i, f, a, cell, h1, h2, h3, h4, h5, h6, h7, h8, h9, hA a (Array.getElem?_eq_some_iff.mp h5).1⟩
theorem vx_isRef {C n d : String} {v : Value} {A : Nat → Prop} {s : State} {args : Array Value} (h : va_Z C n d v A s s.heap) (hv : v.isRef = true) : (Cond.isRef (.static C n d)).before args s = true := by
  obtain ⟨cf, kf, fi, f, a, cell, h1, h2, h3, h4, h5, h6, h7, -⟩ := h
  have he : (Term.static C n d).eval args s none [] s = some v := by
    simp [Term.eval, State.fieldNamed?, h1, h2, h4, h5, h6, h7]
  simp only [Cond.before, Cond.holds, Cond.value, he]
  cases v <;> simp_all [Value.isRef]
theorem vx_isRefq {C n d : String} {A : Nat → Prop} {s : State} {args : Array Value} (h : va_Zq C n d A s s.heap) : (Cond.isRef (.static C n d)).before args s = true := by
  rcases h with h | ⟨t, h⟩
  · exact vx_isRef h rfl
  · exact vx_isRef h rfl
/-- the same frame, seen from here: as if the method were called anew in this heap -/
theorem vx_rebase {T : State} (X : Stand p l e R s m args below meth c T locs cells slots) {R' : Room} (hf : R'.frames ≤ R.frames) (hl : R'.locals ≤ R.locals) (hc : cells + R'.cells ≤ R.cells) (hs : slots + R'.slots ≤ R.slots) :
    Stand p l e R' ((T.setVm s.vm).setFrames (.invoking m args :: below)) m args below meth c T [] 0 0 := by
  have htop : (T.setVm s.vm).topJava?.isSome := X.here.top
  have hF : ((T.setVm s.vm).setFrames (.invoking m args :: below)).frames = .invoking m args :: below := State.frames_setFrames _ (State.cur_lt_of_top htop)
  obtain ⟨g₀, hg0⟩ := Option.isSome_iff_exists.mp htop
  obtain ⟨r, hr⟩ := State.topJava?_eq_some.mp hg0
  have hl9 : e.platform.stackLimits (T.setVm s.vm).me = e.platform.stackLimits s.me := X.limits
  have hb9 : (T.setVm s.vm).me.stackBytes = s.me.stackBytes := X.bytes
  refine ⟨X.admits, X.cas, X.clock, hF, ?_, X.hears, X.method, X.code, X.here, X.tail, X.warmed, ?_, ?_, ?_⟩
  · have h := X.room
    have hU : ((T.setVm s.vm).setFrames (.invoking m args :: below)).localsInUse = s.localsInUse := by
      rw [State.localsInUse_invoking hF (meth := meth) (c := c) X.method X.code, State.localsInUse_invoking X.frames X.method X.code]
    simp only [State.hasRoom, Bool.and_eq_true, decide_eq_true_eq] at h ⊢
    obtain ⟨⟨⟨⟨h1, h2, h3, h4, h5, h6⟩, h7⟩, h8⟩, h9⟩ := h
    rw [X.frames, List.length_cons] at h2 h3
    have q1 := X.heapSize
    have q2 := X.used
    simp only [hF, hU, List.length_cons, State.stackLimits_setFrames, State.stackBytes_setFrames, hl9, hb9]
    refine ⟨⟨⟨⟨by omega, by omega, by omega, by omega, by omega, h6⟩, ?_⟩, ?_⟩, X.book⟩
    · show T.heap.size + R'.cells ≤ e.platform.maxCells
      omega
    · show T.slotsUsed + R'.slots ≤ e.platform.maxSlots
      omega
  · rw [State.stackLimits_setFrames]; rfl
  · rw [State.stackBytes_setFrames]; rfl
  · refine ⟨?_, Nat.le_refl _, Nat.le_refl _, ?_, ?_, fun a c9 h9 => ⟨c9, h9, rfl, rfl, fun _ _ => rfl⟩⟩
    · obtain ⟨t, ht, -⟩ := State.frames_cons hr
      show T.setVm s.vm = { ((T.setVm s.vm).setFrames (.invoking m args :: below)).setFrames (T.setVm s.vm).frames with heap := T.heap, slotsUsed := T.slotsUsed }
      rw [State.setFrames_setFrames, State.setFrames_self ht]
      rfl
    · show T.slotsUsed = T.slotsUsed + ((T.heap.toList.drop T.heap.size).map (·.slots.size)).sum
      rw [List.drop_eq_nil_of_le (Nat.le_of_eq Array.length_toList)]
      rfl
    · show ((T.heap.toList.drop T.heap.size).map (·.slots.size)).sum ≤ 0
      rw [List.drop_eq_nil_of_le (Nat.le_of_eq Array.length_toList)]
      exact Nat.le_refl _
/-- 'throw new E()': new; dup; invokespecial; athrow -/
theorem vx_throw0 {cc : ByteArray} {pc : Nat} (hexec : p.tables.exec = Jvm.exec) (hb : c.code = cc) (hl : l.stackTraces = false) {own cls : String} {names : List String} {ik ic mc ms : Nat} {A : Nat → Prop}
    (hown : s.vm.findClass own = some m.cls) (hcls : Bundle.fit cls = true) (hnames : ∀ n ∈ names, Bundle.fit n = true)
    (hk : (Cond.classLink own ik cls).before args s = true) (hini : (Cond.initialized cls).before args s = true) (hat : ∀ w ∈ vx_at0 own ic cls names, w.before args s = true)
    (hgood : ∀ w ∈ Cond.classLink own ik cls :: Cond.initialized cls :: vx_at0 own ic cls names, vx_ot w = true)
    (hU : vx_Zq Bundle.tN "UNASSIGNED_STACK" Bundle.steD A s s.heap) (hN : vx_Zq Bundle.tN "SUPPRESSED_SENTINEL" Bundle.listD A s s.heap) (hS : va_S A s.heap H locs) (hsize : ls.size = c.maxLocals)
    (d0 : decode cc pc = .ok (.new ik, 3)) (d3 : decode cc (pc + 3) = .ok (.dup, 1)) (d4 : decode cc (pc + 4) = .ok (.invokespecial ic, 3)) (d7 : decode cc (pc + 7) = .ok (.athrow, 1))
    (hout : ∀ x ∈ c.exceptionTable.toList, covers x (pc + 7) = false)
    (hRframes : names.length + 3 < R.frames) (hRlocals : (rest.map fun v => v.category).sum + (13 * (names.length + 1) + 42) ≤ R.locals) (hRcells : cells + 1 ≤ R.cells) (hRslots : slots + 6 ≤ R.slots) (hlocks : meth.locks = false)
    (hx : ∀ t : State, s.vm.Alike t.vm → H.size ≤ t.heap.size → (∀ q : Nat, q < H.size → t.heap[q]? = H[q]?) → XC cls s t)
    (hf : ∀ z ∈ locs, free z.base) (hc : cells + 1 ≤ mc) (hs : slots + 6 ≤ ms) :
    W p l e R s m args below meth c H locs cells slots (vx_MQ below Qc XC args s mc ms free) (F0 m pc ls rest) := by
  intro T hT X
  have htr : e.platform.stackTraces = false := (show e.platform.stackTraces = l.stackTraces by rw [X.admits.platform]).trans hl
  have Y := vx_rebase X (R' := { frames := R.frames, locals := R.locals, cells := 1, slots := 6 }) (Nat.le_refl _) (Nat.le_refl _) hRcells hRslots
  obtain ⟨s', hA⟩ : ∃ z, z = (T.setVm s.vm).setFrames (.invoking m args :: below) := ⟨_, rfl⟩
  rw [← hA] at Y
  have hvm : s'.vm = s.vm := by rw [hA]; rfl
  have hhp : s'.heap = H := by rw [hA]; exact hT
  have hW0 : s.WarmedH s'.vm := by rw [hvm]; exact State.WarmedH.refl s
  have hat' : ∀ w ∈ vx_at0 own ic cls names, w.before args s' = true := fun w hw => vx_ot_at hW0 hvm.symm (hgood w (List.mem_cons_of_mem _ (List.mem_cons_of_mem _ hw))) (hat w hw)
  have hk' : (Cond.classLink own ik cls).before args s' = true := vx_ot_at hW0 hvm.symm (hgood _ List.mem_cons_self) hk
  have hini' : (Cond.initialized cls).before args s' = true := vx_ot_at hW0 hvm.symm (hgood _ (List.mem_cons_of_mem _ List.mem_cons_self)) hini
  have hU' : vx_Zq Bundle.tN "UNASSIGNED_STACK" Bundle.steD A s' s'.heap := by rw [hhp]; exact vx_Zq.moved hW0.alike (hU.kept hS.2.1)
  have hN' : vx_Zq Bundle.tN "SUPPRESSED_SENTINEL" Bundle.listD A s' s'.heap := by rw [hhp]; exact vx_Zq.moved hW0.alike (hN.kept hS.2.1)
  have h : ∀ w ∈ Bundle.ownAtoms0 own ic cls names, w.before args s' = true := vx_own hat' (vx_isRefq hU'.1) (vx_isRefq hN'.1) hU'.2.word hN'.2.word
  have hown' : s'.vm.findClass own = some m.cls := by rw [hvm]; exact hown
  have hins : (Cond.instantiable cls 6).before args s' = true := h _ (by simp [Bundle.ownAtoms0])
  obtain ⟨vm₁, cX, kX, hfX, hkX, -, -, X₁, st1⟩ := Y.newCold hexec (own := own) (C := cls) (index := ik) (n := 6) hown' hk' hins hini'
    (g := F0 m pc ls rest) rfl (by rw [hb]; exact d0) (Nat.le_refl _) (Nat.le_refl _)
  generalize hT1 : (T.setVm vm₁).pushCell { cls := cX, slots := kX.instanceTypes.map defaultValue, vm := .none } = T1 at X₁ st1
  have hcat : (Value.ref T.heap.size).category = 1 := rfl
  have hcellA : T1.heap[T.heap.size]? = some (freshCell cX kX) := by rw [← hT1]; exact State.heap_pushCell_size _ _
  have d3' : decode c.code (pc + 3) = .ok (.dup, 1) := by rw [hb]; exact d3
  obtain ⟨U, hsteps, hrun, hend, hW, hsame, ce, hce, hO⟩ := X₁.ctorThrow0 hexec htr (own := own) (cls := cls) (names := names) (ic := ic) hown' hcls hnames h (fun x hx => nomatch hx) hfX hkX hcellA (by rw [hhp, hT]; exact Nat.le_refl _)
    (g := { method := m, pc := pc + 4, locals := ls, stack := .ref T.heap.size :: .ref T.heap.size :: rest, locked := none }) rfl hsize rfl rfl (rest := rest) rfl
    (by rw [hb]; exact d4) (by rw [hb]; exact d7) hout hRframes (by simp only [List.map_cons, List.sum_cons, hcat]; omega) hlocks
  obtain ⟨f1, f2⟩ := vx_frame hsame
  rw [hhp] at f1 f2
  have hWs : s.WarmedH U.vm := State.WarmedH.trans hW0 hW
  have hcl : s.vm.findClass cls = some ce.cls := by
    have h9 := hO.cls
    rw [hvm] at h9
    exact h9
  have hall : s.sameButNew ({ U with vm := s.vm } : State) locs mc ms := by
    subst hA
    obtain ⟨e1, e2⟩ := hsame
    rw [State.setFrames_setFrames] at e1
    have h2 : (T.setVm s.vm).sameButNew ({ U with vm := s.vm } : State) [] (0 + 1) (0 + 6) := ⟨e1, e2⟩
    have h3 := X.same.trans h2
    rw [List.append_nil] at h3
    exact h3.mono hc hs
  refine ⟨U, ?_, .threw T.heap.size, hrun, hend, Or.inr ⟨T.heap.size, rfl, cls, ce, locs, hx U hWs.alike f1 (fun q hq => f2 q hq (fun z hz => nomatch hz)), hce, hO.vm, hcl, hWs, hall, hf⟩⟩
  refine st1 _ ?_
  show Steps p.tables e below (T1.setTop { method := m, pc := pc + 3, locals := ls, stack := .ref T.heap.size :: rest, locked := none }) _
  jvm_step X₁.here [X₁.here.top, hexec, d3', Value.category]
  exact hsteps
/-- 'throw new E("text")': new; dup; ldc; invokespecial; athrow -/
theorem vx_throwS {cc : ByteArray} {pc : Nat} (hexec : p.tables.exec = Jvm.exec) (hb : c.code = cc) (hl : l.stackTraces = false) {own cls text : String} {names : List String} {ik is ic mc ms sa : Nat} {A : Nat → Prop}
    (hown : s.vm.findClass own = some m.cls) (hcls : Bundle.fit cls = true) (hnames : ∀ n ∈ names, Bundle.fit n = true)
    (hk : (Cond.classLink own ik cls).before args s = true) (hini : (Cond.initialized cls).before args s = true) (hstr : vk_R own is text sa s) (hat : ∀ w ∈ vx_atS own ic cls names, w.before args s = true)
    (hgood : ∀ w ∈ Cond.classLink own ik cls :: Cond.initialized cls :: vx_atS own ic cls names, vx_ot w = true)
    (hU : vx_Zq Bundle.tN "UNASSIGNED_STACK" Bundle.steD A s s.heap) (hN : vx_Zq Bundle.tN "SUPPRESSED_SENTINEL" Bundle.listD A s s.heap) (hS : va_S A s.heap H locs) (hsize : ls.size = c.maxLocals)
    (d0 : decode cc pc = .ok (.new ik, 3)) (d3 : decode cc (pc + 3) = .ok (.dup, 1)) (d4 : decode cc (pc + 4) = .ok (.ldc is, 2)) (d6 : decode cc (pc + 6) = .ok (.invokespecial ic, 3)) (d9 : decode cc (pc + 9) = .ok (.athrow, 1))
    (hout : ∀ x ∈ c.exceptionTable.toList, covers x (pc + 9) = false)
    (hRframes : names.length + 3 < R.frames) (hRlocals : (rest.map fun v => v.category).sum + (13 * (names.length + 1) + 43) ≤ R.locals) (hRcells : cells + 1 ≤ R.cells) (hRslots : slots + 6 ≤ R.slots) (hlocks : meth.locks = false)
    (hx : ∀ t : State, s.vm.Alike t.vm → H.size ≤ t.heap.size → (∀ q : Nat, q < H.size → t.heap[q]? = H[q]?) → XC cls s t)
    (hf : ∀ z ∈ locs, free z.base) (hc : cells + 1 ≤ mc) (hs : slots + 6 ≤ ms) :
    W p l e R s m args below meth c H locs cells slots (vx_MQ below Qc XC args s mc ms free) (F0 m pc ls rest) := by
  intro T hT X
  have htr : e.platform.stackTraces = false := (show e.platform.stackTraces = l.stackTraces by rw [X.admits.platform]).trans hl
  have Y := vx_rebase X (R' := { frames := R.frames, locals := R.locals, cells := 1, slots := 6 }) (Nat.le_refl _) (Nat.le_refl _) hRcells hRslots
  obtain ⟨s', hA⟩ : ∃ z, z = (T.setVm s.vm).setFrames (.invoking m args :: below) := ⟨_, rfl⟩
  rw [← hA] at Y
  have hvm : s'.vm = s.vm := by rw [hA]; rfl
  have hhp : s'.heap = H := by rw [hA]; exact hT
  have hW0 : s.WarmedH s'.vm := by rw [hvm]; exact State.WarmedH.refl s
  have hat' : ∀ w ∈ vx_atS own ic cls names, w.before args s' = true := fun w hw => vx_ot_at hW0 hvm.symm (hgood w (List.mem_cons_of_mem _ (List.mem_cons_of_mem _ hw))) (hat w hw)
  have hk' : (Cond.classLink own ik cls).before args s' = true := vx_ot_at hW0 hvm.symm (hgood _ List.mem_cons_self) hk
  have hini' : (Cond.initialized cls).before args s' = true := vx_ot_at hW0 hvm.symm (hgood _ (List.mem_cons_of_mem _ List.mem_cons_self)) hini
  have hU' : vx_Zq Bundle.tN "UNASSIGNED_STACK" Bundle.steD A s' s'.heap := by rw [hhp]; exact vx_Zq.moved hW0.alike (hU.kept hS.2.1)
  have hN' : vx_Zq Bundle.tN "SUPPRESSED_SENTINEL" Bundle.listD A s' s'.heap := by rw [hhp]; exact vx_Zq.moved hW0.alike (hN.kept hS.2.1)
  have h : ∀ w ∈ Bundle.ownAtoms own ic cls names, w.before args s' = true := vx_own hat' (vx_isRefq hU'.1) (vx_isRefq hN'.1) hU'.2.word hN'.2.word
  have hown' : s'.vm.findClass own = some m.cls := by rw [hvm]; exact hown
  have hins : (Cond.instantiable cls 6).before args s' = true := h _ (by simp [Bundle.ownAtoms])
  obtain ⟨vm₁, cX, kX, hfX, hkX, -, -, X₁, st1⟩ := Y.newCold hexec (own := own) (C := cls) (index := ik) (n := 6) hown' hk' hins hini'
    (g := F0 m pc ls rest) rfl (by rw [hb]; exact d0) (Nat.le_refl _) (Nat.le_refl _)
  generalize hT1 : (T.setVm vm₁).pushCell { cls := cX, slots := kX.instanceTypes.map defaultValue, vm := .none } = T1 at X₁ st1
  have hcat : (Value.ref T.heap.size).category = 1 := rfl
  have hcellA : T1.heap[T.heap.size]? = some (freshCell cX kX) := by rw [← hT1]; exact State.heap_pushCell_size _ _
  have d3' : decode c.code (pc + 3) = .ok (.dup, 1) := by rw [hb]; exact d3
  have d4' : decode c.code (pc + 4) = .ok (.ldc is, 2) := by rw [hb]; exact d4
  have hstr' : vk_R own is text sa s' := vk_R.warm hW0 hstr
  obtain ⟨U, hsteps, hrun, hend, hW, hsame, ce, hce, hO⟩ := X₁.ctorThrowS hexec htr (own := own) (cls := cls) (names := names) (ic := ic) hown' hcls hnames h (fun x hx => nomatch hx) hfX hkX hcellA (by rw [hhp, hT]; exact Nat.le_refl _) (msg := .ref sa) rfl
    (g := { method := m, pc := pc + 6, locals := ls, stack := .ref sa :: .ref T.heap.size :: .ref T.heap.size :: rest, locked := none }) rfl hsize rfl rfl (rest := rest) rfl
    (by rw [hb]; exact d6) (by rw [hb]; exact d9) hout hRframes (by simp only [List.map_cons, List.sum_cons, hcat]; omega) hlocks
  obtain ⟨f1, f2⟩ := vx_frame hsame
  rw [hhp] at f1 f2
  have hWs : s.WarmedH U.vm := State.WarmedH.trans hW0 hW
  have hcl : s.vm.findClass cls = some ce.cls := by
    have h9 := hO.cls
    rw [hvm] at h9
    exact h9
  have hall : s.sameButNew ({ U with vm := s.vm } : State) locs mc ms := by
    subst hA
    obtain ⟨e1, e2⟩ := hsame
    rw [State.setFrames_setFrames] at e1
    have h2 : (T.setVm s.vm).sameButNew ({ U with vm := s.vm } : State) [] (0 + 1) (0 + 6) := ⟨e1, e2⟩
    have h3 := X.same.trans h2
    rw [List.append_nil] at h3
    exact h3.mono hc hs
  refine ⟨U, ?_, .threw T.heap.size, hrun, hend, Or.inr ⟨T.heap.size, rfl, cls, ce, locs, hx U hWs.alike f1 (fun q hq => f2 q hq (fun z hz => nomatch hz)), hce, hO.vm, hcl, hWs, hall, hf⟩⟩
  refine st1 _ ?_
  show Steps p.tables e below (T1.setTop { method := m, pc := pc + 3, locals := ls, stack := .ref T.heap.size :: rest, locked := none }) _
  jvm_step X₁.here [X₁.here.top, hexec, d3', Value.category]
  exact X₁.ldcString hexec (own := own) (text := text) (index := is) (a := sa) hown' hstr'.1 hstr'.2
    (g := { method := m, pc := pc + 4, locals := ls, stack := .ref T.heap.size :: .ref T.heap.size :: rest, locked := none }) rfl d4' _ hsteps
/-- 'throw new E("text")', the text by a wide index -/
theorem vx_throwSW {cc : ByteArray} {pc : Nat} (hexec : p.tables.exec = Jvm.exec) (hb : c.code = cc) (hl : l.stackTraces = false) {own cls text : String} {names : List String} {ik is ic mc ms sa : Nat} {A : Nat → Prop}
    (hown : s.vm.findClass own = some m.cls) (hcls : Bundle.fit cls = true) (hnames : ∀ n ∈ names, Bundle.fit n = true)
    (hk : (Cond.classLink own ik cls).before args s = true) (hini : (Cond.initialized cls).before args s = true) (hstr : vk_R own is text sa s) (hat : ∀ w ∈ vx_atS own ic cls names, w.before args s = true)
    (hgood : ∀ w ∈ Cond.classLink own ik cls :: Cond.initialized cls :: vx_atS own ic cls names, vx_ot w = true)
    (hU : vx_Zq Bundle.tN "UNASSIGNED_STACK" Bundle.steD A s s.heap) (hN : vx_Zq Bundle.tN "SUPPRESSED_SENTINEL" Bundle.listD A s s.heap) (hS : va_S A s.heap H locs) (hsize : ls.size = c.maxLocals)
    (d0 : decode cc pc = .ok (.new ik, 3)) (d3 : decode cc (pc + 3) = .ok (.dup, 1)) (d4 : decode cc (pc + 4) = .ok (.ldc_w is, 3)) (d7 : decode cc (pc + 7) = .ok (.invokespecial ic, 3)) (d10 : decode cc (pc + 10) = .ok (.athrow, 1))
    (hout : ∀ x ∈ c.exceptionTable.toList, covers x (pc + 10) = false)
    (hRframes : names.length + 3 < R.frames) (hRlocals : (rest.map fun v => v.category).sum + (13 * (names.length + 1) + 43) ≤ R.locals) (hRcells : cells + 1 ≤ R.cells) (hRslots : slots + 6 ≤ R.slots) (hlocks : meth.locks = false)
    (hx : ∀ t : State, s.vm.Alike t.vm → H.size ≤ t.heap.size → (∀ q : Nat, q < H.size → t.heap[q]? = H[q]?) → XC cls s t)
    (hf : ∀ z ∈ locs, free z.base) (hc : cells + 1 ≤ mc) (hs : slots + 6 ≤ ms) :
    W p l e R s m args below meth c H locs cells slots (vx_MQ below Qc XC args s mc ms free) (F0 m pc ls rest) := by
  intro T hT X
  have htr : e.platform.stackTraces = false := (show e.platform.stackTraces = l.stackTraces by rw [X.admits.platform]).trans hl
  have Y := vx_rebase X (R' := { frames := R.frames, locals := R.locals, cells := 1, slots := 6 }) (Nat.le_refl _) (Nat.le_refl _) hRcells hRslots
  obtain ⟨s', hA⟩ : ∃ z, z = (T.setVm s.vm).setFrames (.invoking m args :: below) := ⟨_, rfl⟩
  rw [← hA] at Y
  have hvm : s'.vm = s.vm := by rw [hA]; rfl
  have hhp : s'.heap = H := by rw [hA]; exact hT
  have hW0 : s.WarmedH s'.vm := by rw [hvm]; exact State.WarmedH.refl s
  have hat' : ∀ w ∈ vx_atS own ic cls names, w.before args s' = true := fun w hw => vx_ot_at hW0 hvm.symm (hgood w (List.mem_cons_of_mem _ (List.mem_cons_of_mem _ hw))) (hat w hw)
  have hk' : (Cond.classLink own ik cls).before args s' = true := vx_ot_at hW0 hvm.symm (hgood _ List.mem_cons_self) hk
  have hini' : (Cond.initialized cls).before args s' = true := vx_ot_at hW0 hvm.symm (hgood _ (List.mem_cons_of_mem _ List.mem_cons_self)) hini
  have hU' : vx_Zq Bundle.tN "UNASSIGNED_STACK" Bundle.steD A s' s'.heap := by rw [hhp]; exact vx_Zq.moved hW0.alike (hU.kept hS.2.1)
  have hN' : vx_Zq Bundle.tN "SUPPRESSED_SENTINEL" Bundle.listD A s' s'.heap := by rw [hhp]; exact vx_Zq.moved hW0.alike (hN.kept hS.2.1)
  have h : ∀ w ∈ Bundle.ownAtoms own ic cls names, w.before args s' = true := vx_own hat' (vx_isRefq hU'.1) (vx_isRefq hN'.1) hU'.2.word hN'.2.word
  have hown' : s'.vm.findClass own = some m.cls := by rw [hvm]; exact hown
  have hins : (Cond.instantiable cls 6).before args s' = true := h _ (by simp [Bundle.ownAtoms])
  obtain ⟨vm₁, cX, kX, hfX, hkX, -, -, X₁, st1⟩ := Y.newCold hexec (own := own) (C := cls) (index := ik) (n := 6) hown' hk' hins hini'
    (g := F0 m pc ls rest) rfl (by rw [hb]; exact d0) (Nat.le_refl _) (Nat.le_refl _)
  generalize hT1 : (T.setVm vm₁).pushCell { cls := cX, slots := kX.instanceTypes.map defaultValue, vm := .none } = T1 at X₁ st1
  have hcat : (Value.ref T.heap.size).category = 1 := rfl
  have hcellA : T1.heap[T.heap.size]? = some (freshCell cX kX) := by rw [← hT1]; exact State.heap_pushCell_size _ _
  have d3' : decode c.code (pc + 3) = .ok (.dup, 1) := by rw [hb]; exact d3
  have d4' : decode c.code (pc + 4) = .ok (.ldc_w is, 3) := by rw [hb]; exact d4
  have hstr' : vk_R own is text sa s' := vk_R.warm hW0 hstr
  obtain ⟨U, hsteps, hrun, hend, hW, hsame, ce, hce, hO⟩ := X₁.ctorThrowS hexec htr (own := own) (cls := cls) (names := names) (ic := ic) hown' hcls hnames h (fun x hx => nomatch hx) hfX hkX hcellA (by rw [hhp, hT]; exact Nat.le_refl _) (msg := .ref sa) rfl
    (g := { method := m, pc := pc + 7, locals := ls, stack := .ref sa :: .ref T.heap.size :: .ref T.heap.size :: rest, locked := none }) rfl hsize rfl rfl (rest := rest) rfl
    (by rw [hb]; exact d7) (by rw [hb]; exact d10) hout hRframes (by simp only [List.map_cons, List.sum_cons, hcat]; omega) hlocks
  obtain ⟨f1, f2⟩ := vx_frame hsame
  rw [hhp] at f1 f2
  have hWs : s.WarmedH U.vm := State.WarmedH.trans hW0 hW
  have hcl : s.vm.findClass cls = some ce.cls := by
    have h9 := hO.cls
    rw [hvm] at h9
    exact h9
  have hall : s.sameButNew ({ U with vm := s.vm } : State) locs mc ms := by
    subst hA
    obtain ⟨e1, e2⟩ := hsame
    rw [State.setFrames_setFrames] at e1
    have h2 : (T.setVm s.vm).sameButNew ({ U with vm := s.vm } : State) [] (0 + 1) (0 + 6) := ⟨e1, e2⟩
    have h3 := X.same.trans h2
    rw [List.append_nil] at h3
    exact h3.mono hc hs
  refine ⟨U, ?_, .threw T.heap.size, hrun, hend, Or.inr ⟨T.heap.size, rfl, cls, ce, locs, hx U hWs.alike f1 (fun q hq => f2 q hq (fun z hz => nomatch hz)), hce, hO.vm, hcl, hWs, hall, hf⟩⟩
  refine st1 _ ?_
  show Steps p.tables e below (T1.setTop { method := m, pc := pc + 3, locals := ls, stack := .ref T.heap.size :: rest, locked := none }) _
  jvm_step X₁.here [X₁.here.top, hexec, d3', Value.category]
  exact X₁.ldcStringW hexec (own := own) (text := text) (index := is) (a := sa) hown' hstr'.1 hstr'.2
    (g := { method := m, pc := pc + 4, locals := ls, stack := .ref T.heap.size :: .ref T.heap.size :: rest, locked := none }) rfl d4' _ hsteps
end Ends
section Bodies
variable {l : Launch}
theorem vx_ofW {y : MethodName} {ws ws' : List Cond} {rm : Room} {Pc : Array Value → State → Prop} {Qc : Array Value → State → Outcome → State → Prop} {XC : String → State → State → Prop} {mc ms : Nat} {free : Addr → Prop} {cc : ByteArray} {maxL : Nat} {ret : Option FieldType}
    (hy : plainName y.cls = true) (hw : ws = Cond.code y cc maxL ret :: ws')
    (body : ∀ p e s m args below meth c s₁, BodyLoose p l y (headSpec ws rm) cc maxL ret e s m args below meth c s₁ → c.maxLocals = maxL → (∀ x ∈ c.exceptionTable.toList, False) → Pc args s →
      W p l e (headSpec ws rm).room s m args below meth c s.heap [] 0 0 (vx_MQ below Qc XC args s mc ms free) (entryFrame m args maxL)) : vx_Met l y ws rm Pc Qc XC mc ms free := by
  refine MetFree.of_bodyS (code := cc) (maxLocals := maxL) (ret := ret) hy ?_ ?_
  · intro args s m h hn
    obtain ⟨meth, c, h1, h2, h3, h4, h5, h6, -, -⟩ := Cond.code_spec hn (atoms_spec (ws := ws) h _ (by rw [hw]; exact List.mem_cons_self))
    exact ⟨meth, c, h1, h2, h3, h4, h5, h6⟩
  · intro p e s m args below meth c s₁ B hml hP _
    have hh0 : s₁.heap = s.heap := by rw [B.state]; rfl
    have ht : ∀ x ∈ c.exceptionTable.toList, False := by
      obtain ⟨meth9, c9, h1, h2, -, -, -, -, h7, -⟩ := Cond.code_spec B.named (atoms_spec (ws := ws) B.pre _ (by rw [hw]; exact List.mem_cons_self))
      cases Option.some.inj (h1.symm.trans B.method)
      cases Option.some.inj (h2.symm.trans (Stand.of_body B).code)
      intro x hx
      rw [Array.isEmpty_iff.mp h7] at hx
      cases hx
    obtain ⟨t, a1, o, b1, b2, b3⟩ := body p e s m args below meth c s₁ B hml ht hP s₁ hh0 (Stand.of_body B)
    exact ⟨t, o, a1, b1, b2, b3⟩
/-- the table of a body with handlers -/
theorem vx_table {p : Program} {x y : MethodName} {S : Spec} {cc bytes : ByteArray} {maxL maxL' : Nat} {ret ret' : Option FieldType} {e : Env} {s s₁ : State} {m : MethodId} {args : Array Value} {below : List Frame} {meth : Method} {c : Code} {hh : List (Nat × Nat × Nat × Nat)}
    (B : BodyLoose p l y S cc maxL ret e s m args below meth c s₁) (h : (Cond.codeWith y bytes maxL' ret' hh).before args s = true) : c.exceptionTable.toList = tableOf hh := by
  obtain ⟨m9, meth9, c9, hn9, h1, h2, -, -, h6, -⟩ := Cond.codeWith_spec h
  cases Option.some.inj (hn9.symm.trans B.named)
  cases Option.some.inj (h1.symm.trans B.method)
  cases Option.some.inj (h2.symm.trans (Stand.of_body B).code)
  rw [← h6, table_eq]
end Bodies
end VXA
/-! ===== END ===== -/
/-! ===== BEGIN a static call of a method with an exception table ===== -/
section VXS
variable {p : Program} {l : Launch} {e : Env} {R : Room} {s : State} {m : MethodId} {args : Array Value} {below : List Frame} {meth : Method} {c : Code} {T : State} {H : Heap} {locs : List Loc} {cells slots : Nat}
abbrev vx_CSW (R : Room) (s : State) (args : Array Value) (own : String) (index : Nat) (y : MethodName) (bytes : ByteArray) (maxL : Nat) (ret : Option FieldType) (hh : List (Nat × Nat × Nat × Nat)) (ws : List Cond) (rm : Room) (mc ms n : Nat) : Prop :=
  (rm.cells = mc ∧ rm.slots = ms ∧ rm.frames + 1 ≤ R.frames ∧ 8 + (maxL + 11) + rm.locals ≤ R.locals ∧ (∀ w ∈ ws, ∀ (a' : Array Value) (U : State), s.WarmedH U.vm → w.before a' U = true) ∧ Cond.codeWith y bytes maxL ret hh ∈ ws) ∧
  (Cond.codeWith y bytes maxL ret hh).before args s = true ∧ (Cond.initialized y.cls).before args s = true ∧ (y.cls ≠ "java/lang/invoke/MethodHandle" ∧ y.cls ≠ "java/lang/invoke/VarHandle") ∧
  (∀ sig, parseMethodDescriptor y.desc = some sig → n = sig.parameters.length) ∧ (Cond.methodLink own index y).before args s = true ∧ (Cond.static y).before args s = true
theorem vx_cwSW {own : String} {index maxL mc ms : Nat} {y : MethodName} {bytes : ByteArray} {ret : Option FieldType} {hh : List (Nat × Nat × Nat × Nat)} {Ts ws ws' : List Cond} {rm : Room} (n : Nat) (ht : ∀ w ∈ Ts, w.before args s = true) (hT : GoodIn Ts (va_wsS own index y ws)) (hw : ws = Cond.codeWith y bytes maxL ret hh :: ws') (hrc : rm.cells = mc) (hrs : rm.slots = ms)
    (hd : y.cls ≠ "java/lang/invoke/MethodHandle" ∧ y.cls ≠ "java/lang/invoke/VarHandle" ∧ (parseMethodDescriptor y.desc).map (fun d => d.parameters.length) = some n) (hR : rm.frames + 1 ≤ R.frames ∧ 8 + (maxL + 11) + rm.locals ≤ R.locals) :
    vx_CSW R s args own index y bytes maxL ret hh ws rm mc ms n := by
  have ok : ∀ w ∈ va_wsS own index y ws, w.before args s = true := fun w h => ht w (hT w h).1
  have hG : GoodIn Ts ws := fun w h => hT w (by unfold va_wsS; exact List.mem_append_right _ h)
  have hc : Cond.codeWith y bytes maxL ret hh ∈ ws := by rw [hw]; exact List.mem_cons_self
  refine ⟨⟨hrc, hrs, hR.1, hR.2, pay_in ht hG, hc⟩, ht _ (hG _ hc).1, ok _ (by simp [va_wsS]), ⟨hd.1, hd.2.1⟩, fun sig h => ?_, ok _ (by simp [va_wsS]), ok _ (by simp [va_wsS])⟩
  have h2 := hd.2.2
  rw [h] at h2
  exact (Option.some.inj h2).symm
theorem vx_callSW (X : Stand p l e R s m args below meth c T locs cells slots) (hexec : p.tables.exec = Jvm.exec) {own : String} {index : Nat} {y : MethodName} {bytes : ByteArray} {maxL : Nat} {ret : Option FieldType} {hh : List (Nat × Nat × Nat × Nat)}
    (hown : s.vm.findClass own = some m.cls) (hlink : (Cond.methodLink own index y).before args s = true) (hstat : (Cond.static y).before args s = true) (hinit : (Cond.initialized y.cls).before args s = true)
    (hcode : (Cond.codeWith y bytes maxL ret hh).before args s = true) (hy : y.cls ≠ "java/lang/invoke/MethodHandle" ∧ y.cls ≠ "java/lang/invoke/VarHandle")
    {W9 : Nat} {Pre : Pt → Array Value → Prop} {Post : Pt → Array Value → Option Value → Pt → Prop} (hK : Back l R p e below s args y 3 W9 Pre Post)
    {g : JFrame} (hg : g.method = m) (hsize : g.locals.size = c.maxLocals) {argsL rest : List Value} (hlen : ∀ sig, parseMethodDescriptor y.desc = some sig → argsL.length = sig.parameters.length)
    (hstack : g.stack = argsL.reverse ++ rest) (hW : 2 * g.monitorRoom + (rest.map fun v => v.category).sum ≤ W9) (hdg : decode c.code g.pc = .ok (.invokestatic index, 3))
    (hpre : ∀ vm₁, s.WarmedH vm₁ → Pre ⟨T.setVm vm₁, locs, cells, slots⟩ argsL.toArray) :
    ∃ (v : Option Value) (vm₁ : Vm) (B : Pt), s.WarmedH vm₁ ∧ Stand p l e R s m args below meth c B.U B.locs B.cells B.slots ∧ Post ⟨T.setVm vm₁, locs, cells, slots⟩ argsL.toArray v B ∧
      ∀ target, Steps p.tables e below (B.U.setTop { g with pc := g.pc + 3, stack := v.toList ++ rest }) target → Steps p.tables e below (T.setTop g) target := by
  obtain ⟨mk, methM, cM, hnamed, hmethM, -, -, -, -, -, -, hsigM⟩ := Cond.codeWith_spec hcode
  have hstatic : methM.isStatic = true := Cond.static_spec hnamed hmethM hstat
  obtain ⟨kP, hkP, -⟩ := className_of_methodNamed hnamed
  have hinitP : kP.init = .initialized := Cond.initialized_spec (findClass_of_methodNamed hnamed) hkP hinit
  obtain ⟨vm₁, X₁, hstep₁⟩ := X.invokestatic hexec hown hlink hnamed hmethM hstatic hkP hinitP hy (g := g) hg (argsL := argsL) (rest := rest) (hlen _ hsigM) hstack hdg
  obtain ⟨v, B, X', hpost, hsteps⟩ := hK m meth c ⟨T.setVm vm₁, locs, cells, slots⟩ { g with stack := rest } (.invokestatic index) mk argsL.toArray X₁ hg hsize hdg hW (X₁.named hnamed) (hpre vm₁ X₁.warmed)
  exact ⟨v, vm₁, B, X₁.warmed, X', hpost, fun target h => hstep₁ _ fun acts => by rw [doInvoke_state]; exact hsteps.trans h⟩
theorem vx_runSW {y : MethodName} {bytes cc : ByteArray} {maxL nL mc ms n index : Nat} {ret : Option FieldType} {hh : List (Nat × Nat × Nat × Nat)} {ws : List Cond} {rm : Room} {Pc : Array Value → State → Prop} {Qc : Array Value → State → Outcome → State → Prop} {free : Addr → Prop} {Ts : List Cond} {own : String} {As rest : List Value} {g : JFrame}
    (S : CallFix p m c cc nL s args Ts own) (hM : Met l y ws rm Pc Qc mc ms free) (cw : vx_CSW R s args own index y bytes maxL ret hh ws rm mc ms n) (hp : PreS s H Pc As)
    (hg : g.method = m) (hn : As.length = n) (hsize : g.locals.size = nL) (hstack : g.stack = As.reverse ++ rest) (hW : 2 * g.monitorRoom + (rest.map fun v => v.category).sum ≤ 8) (hdg : decode cc g.pc = .ok (.invokestatic index, 3)) (hf : cells + mc ≤ R.cells ∧ slots + ms ≤ R.slots) :
    va_Run p l e R s m args below meth c H locs cells slots mc ms g rest (Qc As.toArray) (free) := by
  obtain ⟨⟨hrc, hrs, hfr, hlo, hws, hcw⟩, hcode, hini, hy, hlen, hl, hstt⟩ := cw
  have hK : Back l R p e below s args y 3 8 (PreOf R mc ms Pc) (PostOf Qc mc ms free) := va_backW (hh := hh) (bytes := bytes) (maxL := maxL) (ret := ret) hM hp.1 hrc hrs hfr hlo hws hcw (fun a' U hW => word_at hW (Or.inl (by first | rfl | simp [Cond.onTables, Cond.keeps, Cond.steady])) hini)
  obtain ⟨hx, hb, hml, ho, -⟩ := S
  intro T hT X
  obtain ⟨v, vm₁, ⟨U', l2, c2, s2⟩, hW₁, X', ⟨g', mk, t, L, e1, e2, hq, h1, hL, h2, h3⟩, st⟩ := vx_callSW X hx (hh := hh) (bytes := bytes) (maxL := maxL) (ret := ret) ho hl hstt hini hcode hy hK hg (hsize.trans hml.symm) (argsL := As) (rest := rest) (fun sig h => hn.trans (hlen sig h)) hstack hW (by rw [hb]; exact hdg)
    (fun vm₁ hW₁ => ⟨hf.1, hf.2, hp.2 (T.setVm vm₁) hT hW₁⟩)
  dsimp only [Pt.U, Pt.locs, Pt.cells, Pt.slots] at X' e1 e2 h1 h2 h3 st
  subst h1; subst h2; subst h3
  exact ⟨v, (T.setVm vm₁).calling g' mk As.toArray, t, U', L, hT, X', hL, e1, e2, hq, st⟩
/-- not caught here, past rows that name other classes: it goes on to the caller -/
theorem vx_outP {p : Program} {l : Launch} {e : Env} {R : Room} {s : State} {m : MethodId} {args : Array Value} {below : List Frame} {meth : Method} {c : Code} {H : Heap} {locs : List Loc} {cells slots : Nat} {free : Addr → Prop} {ls : Array Slot} {rest : List Value} {Qc : Array Value → State → Outcome → State → Prop} {XC : String → State → State → Prop}
    {pc : Nat} {own E : String} {ce : Cell} {q : Addr} {mc ms : Nat} (hown : s.vm.findClass own = some m.cls) (hlocks : meth.locks = false)
    (hpass : ∀ z ∈ c.exceptionTable.toList, covers z pc = false ∨ (z.catchType ≠ 0 ∧ ∃ nm : String, (Cond.classLink own z.catchType nm).before args s = true ∧ va_Nc E nm s)) (hcell : H[q]? = some ce) (hv : ce.vm = .none) (hcl : s.vm.findClass E = some ce.cls)
    (hx : ∀ t : State, t.heap = H → s.vm.Alike t.vm → XC E s t) (hf : ∀ z ∈ locs, free z.base) (hc : cells ≤ mc) (hs : slots ≤ ms) :
    vx_W p l e R s m args below meth c H locs cells slots (vx_MQ below Qc XC args s mc ms free) (F0 m pc ls rest) q := by
  intro T hT X
  have hpl : e.platform.magicAccessors = ({} : Platform).magicAccessors := by rw [X.admits.platform]
  obtain ⟨vm', hW', X', st⟩ := X.outThrough hlocks q (g := F0 m pc ls rest) rfl rfl rfl (cell := ce) (by rw [hT]; exact hcell) (by rw [hv]; rfl)
    (by obtain ⟨k9, h9, -⟩ := Vm.findClass_spec hcl; exact ⟨k9, h9⟩) (fun z hz => by
      rcases hpass z hz with h | ⟨hz0, nm, hl1, hn1⟩
      · exact Or.inl h
      · obtain ⟨c6, hc6, hcl6⟩ := Cond.classLink_spec hown hl1 e.platform hpl
        obtain ⟨a8, b8, h1, h2, h3⟩ := hn1
        cases Option.some.inj (h1.symm.trans hcl)
        cases Option.some.inj (h2.symm.trans hc6)
        exact Or.inr ⟨hz0, _, hcl6, h3⟩)
  obtain ⟨g₀, hfr⟩ := X'.frames_eq
  have hcell9 : ((T.setVm vm').setFrames (.throwing q :: below)).heap[q]? = some ce := by
    show T.heap[q]? = some ce
    rw [hT]; exact hcell
  have hend : Ended ((T.setVm vm').setFrames (.throwing q :: below)) below (.threw q) := State.frames_setFrames _ (State.cur_lt_of_frames hfr)
  refine ⟨(T.setVm vm').setFrames (.throwing q :: below), ?_, .threw q, X'.here.running, hend, Or.inr ⟨q, rfl, E, ce, locs, hx _ hT (X'.ends _).1.alike, hcell9, hv, hcl, (X'.ends _).1, (X'.ends _).2.mono hc hs, hf⟩⟩
  rw [X.pushThrowing_eq]
  exact st
/-- a thing of a world lies in the heap -/
theorem vx_lt {D : va_G} {cl : List vw_C} {ws : va_W} {H1 : Heap} (h : va_P D cl ws H1) {k : Nat} {q : Nat × va_E} (hk : ws[k]? = some q) : q.1 < H1.size := (h k q hk).lt
end VXS
/-! ===== END ===== -/
/-! ===== BEGIN methods with a table of their own: called by a name, returning or throwing ===== -/
section VXH
/-! vx_backW, vx_callVX, vx_callSX, vx_callVW, vx_runVW, vx_runVX, vx_runSX, vx_ofWH follow the same proofs as their sisters above (Free/Laws.lean, Shelf42/LK1.lean); vx_outP calls Shelf42/NT130.lean (outThrough). -/
section
variable {l : Launch} {R : Room} {p : Program} {e : Env} {below : List Frame} {s : State} {sargs : Array Value} {y : MethodName} {len W9 : Nat}
theorem vx_backW {ws : List Cond} {rm : Room} {Pc : Array Value → State → Prop} {Qc : Array Value → State → Outcome → State → Prop} {XC : String → State → State → Prop} {mc ms : Nat} {free : Addr → Prop} {bytes : ByteArray} {maxL : Nat} {ret : Option FieldType} {hh : List (Nat × Nat × Nat × Nat)}
    (hM : vx_Met l y ws rm Pc Qc XC mc ms free) (hblind : FrameBlind Pc) (hrc : rm.cells = mc) (hrs : rm.slots = ms)
    (hframes : rm.frames + 1 ≤ R.frames) (hlocals : W9 + (maxL + 11) + rm.locals ≤ R.locals)
    (hws : ∀ w ∈ ws, ∀ a' U, s.WarmedH U.vm → w.before a' U = true) (hcode : Cond.codeWith y bytes maxL ret hh ∈ ws) (hinit : ∀ a' U, s.WarmedH U.vm → (Cond.initialized y.cls).before a' U = true) :
    vx_Back l R p e below s sargs y len W9 (PreOf R mc ms Pc) (PostOf Qc mc ms free) (vx_Post XC mc ms free) := by
  intro m meth c A g ig mk a X hg hsize hdg hW hn hp
  have h1 : (headSpec ws rm).pre.before a A.U = true := atoms_intro fun w hw => hws w hw _ _ X.warmed
  have h2 : (Cond.codeWith y bytes maxL ret hh).before a A.U = true := hws _ hcode _ _ X.warmed
  have h3 : (Cond.initialized y.cls).before a A.U = true := hinit _ _ X.warmed
  have h4 : A.cells + (headSpec ws rm).room.cells ≤ R.cells := by rw [show (headSpec ws rm).room.cells = mc from hrc]; exact hp.1
  have h5 : A.slots + (headSpec ws rm).room.slots ≤ R.slots := by rw [show (headSpec ws rm).room.slots = ms from hrs]; exact hp.2.1
  have hPc : Pc a (A.U.calling g mk a) := hblind _ _ _ _ hp.2.2
  obtain ⟨U, Ls, c0, s0⟩ := A
  dsimp only [Pt.U, Pt.locs, Pt.cells, Pt.slots] at h1 h2 h3 h4 h5 X hn hPc ⊢
  obtain ⟨m9, methY, cY, hn9, hmY, hcY, -, hlY, -⟩ := Cond.codeWith_spec h2
  cases Option.some.inj (hn9.symm.trans hn)
  obtain ⟨kY, hkY, -⟩ := className_of_methodNamed hn
  have hinitY : kY.init = .initialized := Cond.initialized_spec (findClass_of_methodNamed hn) hkY h3
  have h : At U g.method c below := by rw [hg]; exact X.here
  have hlocals9 : W9 + (maxL + 11) + (headSpec ws rm).room.locals ≤ R.locals := hlocals
  have happ : (headSpec ws rm).appliesLoose y e.platform (U.calling g mk a) = true :=
    Spec.appliesLoose_calling (g := g) h hdg hn hkY hinitY
      (X.room_calling (g := g) (R' := (headSpec ws rm).room) hsize hmY hcY hframes (by rw [hlY]; omega) h4 h5) h1
  obtain ⟨mid, hmid⟩ := h.above
  have hfr : (U.setTop g).frames = (.java g :: mid) ++ below := by rw [State.frames_setTop' g h.top, hmid]; rfl
  obtain ⟨o, s₂, hsteps, -, hend, hq⟩ := Steps.callFree hM p X.admits X.cas X.clock (acts := []) hfr happ hPc trivial
  have hq' : vx_Q Qc XC mc ms free a (U.calling g mk a) o s₂ := hq
  rw [State.frames_setTop' g h.top] at hend
  obtain ⟨g₀, hg0⟩ := Option.isSome_iff_exists.mp h.top
  obtain ⟨r, hr⟩ := State.topJava?_eq_some.mp hg0
  have hr' : (({ U with heap := s₂.heap, slotsUsed := s₂.slotsUsed } : State).setVm s₂.vm).frames = .java g₀ :: r := hr
  rcases hq' with ⟨hqc, L, hfe, hL⟩ | ⟨q, rfl, E, ce, L, hx, hce, hcv, hcl, hW₂, hsm, hL⟩
  · obtain ⟨⟨v, rfl⟩, hW₂, e2, q2, q3, q4, q5, q6⟩ := id hfe
    have e3 : s₂ = ({ (U.calling g mk a).setFrames s₂.frames with heap := s₂.heap, slotsUsed := s₂.slotsUsed } : State).setVm s₂.vm := by
      have : s₂ = ({ s₂ with vm := (U.calling g mk a).vm } : State).setVm s₂.vm := rfl
      rw [e2] at this
      exact this
    obtain ⟨c₂, i₂, len₂, hc₂, hd₂, hf₂⟩ := hend
    have hW' : U.WarmedH s₂.vm := hW₂
    have hcc : c₂ = c := by
      have h1 : s₂.code? g.method = U.code? g.method := by
        rw [State.code?_eq, State.code?_eq, hW'.alike.method?]
      exact Option.some.inj (hc₂.symm.trans (h1.trans h.code))
    subst hcc
    have hlen : len₂ = len := by rw [hdg] at hd₂; cases hd₂; rfl
    subst hlen
    have hs₂ : s₂ = (({ U with heap := s₂.heap, slotsUsed := s₂.slotsUsed } : State).setVm s₂.vm).setTop { g with pc := g.pc + len₂, stack := v.toList ++ g.stack } := by
      refine e3.trans ?_
      rw [hf₂, State.calling_eq h.top, State.setFrames_setFrames, State.setTop_of_frames _ hr', hr]
      rfl
    have hsame : U.sameButNew ({ U with heap := s₂.heap, slotsUsed := s₂.slotsUsed } : State) L mc ms := by
      refine ⟨?_, q2, q3, q4, q5, q6⟩
      obtain ⟨t, ht, -⟩ := State.frames_cons hr
      show ({ U with heap := s₂.heap, slotsUsed := s₂.slotsUsed } : State) = { U.setFrames U.frames with heap := s₂.heap, slotsUsed := s₂.slotsUsed }
      rw [State.setFrames_self ht]
    subst hg
    refine Or.inl ⟨v, ⟨(({ U with heap := s₂.heap, slotsUsed := s₂.slotsUsed } : State).setVm s₂.vm), Ls ++ L, c0 + mc, s0 + ms⟩,
      ⟨X.admits, X.cas, X.clock, X.frames, X.room, X.hears, X.method, X.code, (X.here.setHeapUsed s₂.heap s₂.slotsUsed).setVm hW'.alike, X.tail, State.WarmedH.trans X.warmed hW', X.limits, X.bytes, X.same.trans (hsame.setVm s.vm)⟩,
      ⟨g, mk, s₂, L, rfl, rfl, hqc, rfl, hL, rfl, rfl⟩, ?_⟩
    show Steps p.tables e below _ ((({ U with heap := s₂.heap, slotsUsed := s₂.slotsUsed } : State).setVm s₂.vm).setTop { g with pc := g.pc + len₂, stack := v.toList ++ g.stack })
    rw [← hs₂]
    exact hsteps
  · obtain ⟨e2, q2, q3, q4, q5, q6⟩ := id hsm
    have e3 : s₂ = ({ (U.calling g mk a).setFrames s₂.frames with heap := s₂.heap, slotsUsed := s₂.slotsUsed } : State).setVm s₂.vm := by
      have : s₂ = ({ s₂ with vm := (U.calling g mk a).vm } : State).setVm s₂.vm := rfl
      rw [e2] at this
      exact this
    have hf₂ : s₂.frames = .throwing q :: .java g :: U.frames.tail := hend
    have hW' : U.WarmedH s₂.vm := hW₂
    have hs₂ : s₂ = ((({ U with heap := s₂.heap, slotsUsed := s₂.slotsUsed } : State).setVm s₂.vm).setTop g).pushFrame (.throwing q) := by
      refine e3.trans ?_
      rw [hf₂, State.calling_eq h.top, State.setFrames_setFrames, State.pushFrame, State.frames_setTop _ hr', State.setTop_of_frames _ hr', State.setFrames_setFrames, hr]
      rfl
    have hsame : U.sameButNew ({ U with heap := s₂.heap, slotsUsed := s₂.slotsUsed } : State) L mc ms := by
      refine ⟨?_, q2, q3, q4, q5, q6⟩
      obtain ⟨t, ht, -⟩ := State.frames_cons hr
      show ({ U with heap := s₂.heap, slotsUsed := s₂.slotsUsed } : State) = { U.setFrames U.frames with heap := s₂.heap, slotsUsed := s₂.slotsUsed }
      rw [State.setFrames_self ht]
    subst hg
    refine Or.inr ⟨q, ⟨(({ U with heap := s₂.heap, slotsUsed := s₂.slotsUsed } : State).setVm s₂.vm), Ls ++ L, c0 + mc, s0 + ms⟩,
      ⟨X.admits, X.cas, X.clock, X.frames, X.room, X.hears, X.method, X.code, (X.here.setHeapUsed s₂.heap s₂.slotsUsed).setVm hW'.alike, X.tail, State.WarmedH.trans X.warmed hW', X.limits, X.bytes, X.same.trans (hsame.setVm s.vm)⟩,
      ⟨g, mk, s₂, L, E, ce, rfl, rfl, hx, hce, hcv, hcl, rfl, hL, rfl, rfl⟩, ?_⟩
    show Steps p.tables e below _ (((({ U with heap := s₂.heap, slotsUsed := s₂.slotsUsed } : State).setVm s₂.vm).setTop g).pushFrame (.throwing q))
    rw [← hs₂]
    exact hsteps
end
variable {p : Program} {l : Launch} {e : Env} {R : Room} {s : State} {m : MethodId} {args : Array Value} {below : List Frame} {meth : Method} {c : Code} {T : State} {H : Heap} {locs : List Loc} {cells slots : Nat}
theorem vx_callVX (X : Stand p l e R s m args below meth c T locs cells slots) (hexec : p.tables.exec = Jvm.exec) {own C : String} {index : Nat} {y : MethodName} {bytes : ByteArray} {maxL : Nat} {ret : Option FieldType} {hh : List (Nat × Nat × Nat × Nat)}
    (hown : s.vm.findClass own = some m.cls) (hlink : (Cond.methodLink own index y).before args s = true) (hinst : (Cond.instanceMethod y).before args s = true) (hsel : (Cond.selects C y y).before args s = true)
    (hcode : (Cond.codeWith y bytes maxL ret hh).before args s = true) (hy : y.cls ≠ "java/lang/invoke/MethodHandle" ∧ y.cls ≠ "java/lang/invoke/VarHandle")
    {W9 : Nat} {Pre : Pt → Array Value → Prop} {Post : Pt → Array Value → Option Value → Pt → Prop} {PostX : Pt → Array Value → Addr → Pt → Prop} (hK : vx_Back l R p e below s args y 3 W9 Pre Post PostX)
    {b : Addr} {cellB : Cell} (hcell : T.heap[b]? = some cellB) (hobj : cellB.vm.isStatics = false) (hcls : s.vm.findClass C = some cellB.cls)
    {g : JFrame} (hg : g.method = m) (hsize : g.locals.size = c.maxLocals) {argsL rest : List Value} (hlen : ∀ sig, parseMethodDescriptor y.desc = some sig → argsL.length = sig.parameters.length)
    (hstack : g.stack = argsL.reverse ++ .ref b :: rest) (hW : 2 * g.monitorRoom + (rest.map fun v => v.category).sum ≤ W9) (hdg : decode c.code g.pc = .ok (.invokevirtual index, 3))
    (hpre : ∀ vm₁, s.WarmedH vm₁ → Pre ⟨T.setVm vm₁, locs, cells, slots⟩ (Value.ref b :: argsL).toArray) :
    (∃ (v : Option Value) (vm₁ : Vm) (B : Pt), s.WarmedH vm₁ ∧ Stand p l e R s m args below meth c B.U B.locs B.cells B.slots ∧ Post ⟨T.setVm vm₁, locs, cells, slots⟩ (Value.ref b :: argsL).toArray v B ∧
      ∀ target, Steps p.tables e below (B.U.setTop { g with pc := g.pc + 3, stack := v.toList ++ rest }) target → Steps p.tables e below (T.setTop g) target) ∨
    (∃ (q : Addr) (vm₁ : Vm) (B : Pt), s.WarmedH vm₁ ∧ Stand p l e R s m args below meth c B.U B.locs B.cells B.slots ∧ PostX ⟨T.setVm vm₁, locs, cells, slots⟩ (Value.ref b :: argsL).toArray q B ∧
      Steps p.tables e below (T.setTop g) ((B.U.setTop { g with stack := rest }).pushFrame (.throwing q))) := by
  obtain ⟨mk, methM, hnamed, hmethM, hstM, habM⟩ := Cond.instanceMethod_spec hinst
  obtain ⟨m8, methM', cM, hn8, hmethM', -, -, -, -, -, -, hsigM⟩ := Cond.codeWith_spec hcode
  cases Option.some.inj (hn8.symm.trans hnamed)
  cases hmethM.symm.trans hmethM'
  obtain ⟨c2, r2, m2, q1, q2, q3, q4, kP, hkP, hkPi⟩ := Cond.selects_spec hsel
  cases hcls.symm.trans q1
  cases (State.methodFound?_of_named hnamed hy).symm.trans q2
  cases hnamed.symm.trans q3
  have hselP : selectMethod e.platform s.vm cellB.cls mk = .method mk := by rw [Launch.admits_selectMethod X.admits]; exact q4
  obtain ⟨vm₁, X₁, hstep₁⟩ := X.invokevirtual hexec hown hlink hnamed hmethM hstM hkP hkPi hy (a := b) (cell := cellB) hcell
    (fun z h => by rw [h] at hobj; cases hobj) hselP hmethM habM hkP hkPi (g := g) hg (argsL := argsL) (rest := rest) (hlen _ hsigM) hstack hdg
  rcases hK m meth c ⟨T.setVm vm₁, locs, cells, slots⟩ { g with stack := rest } (.invokevirtual index) mk (Value.ref b :: argsL).toArray X₁ hg hsize hdg hW (X₁.named hnamed) (hpre vm₁ X₁.warmed) with ⟨v, B, X', hpost, hsteps⟩ | ⟨q, B, X', hpost, hsteps⟩
  · exact Or.inl ⟨v, vm₁, B, X₁.warmed, X', hpost, fun target h => hstep₁ _ fun acts => by rw [doInvoke_state]; exact hsteps.trans h⟩
  · exact Or.inr ⟨q, vm₁, B, X₁.warmed, X', hpost, hstep₁ _ fun acts => by rw [doInvoke_state]; exact hsteps⟩
theorem vx_callSX (X : Stand p l e R s m args below meth c T locs cells slots) (hexec : p.tables.exec = Jvm.exec) {own : String} {index : Nat} {y : MethodName} {bytes : ByteArray} {maxL : Nat} {ret : Option FieldType} {hh : List (Nat × Nat × Nat × Nat)}
    (hown : s.vm.findClass own = some m.cls) (hlink : (Cond.methodLink own index y).before args s = true) (hstat : (Cond.static y).before args s = true) (hinit : (Cond.initialized y.cls).before args s = true)
    (hcode : (Cond.codeWith y bytes maxL ret hh).before args s = true) (hy : y.cls ≠ "java/lang/invoke/MethodHandle" ∧ y.cls ≠ "java/lang/invoke/VarHandle")
    {W9 : Nat} {Pre : Pt → Array Value → Prop} {Post : Pt → Array Value → Option Value → Pt → Prop} {PostX : Pt → Array Value → Addr → Pt → Prop} (hK : vx_Back l R p e below s args y 3 W9 Pre Post PostX)
    {g : JFrame} (hg : g.method = m) (hsize : g.locals.size = c.maxLocals) {argsL rest : List Value} (hlen : ∀ sig, parseMethodDescriptor y.desc = some sig → argsL.length = sig.parameters.length)
    (hstack : g.stack = argsL.reverse ++ rest) (hW : 2 * g.monitorRoom + (rest.map fun v => v.category).sum ≤ W9) (hdg : decode c.code g.pc = .ok (.invokestatic index, 3))
    (hpre : ∀ vm₁, s.WarmedH vm₁ → Pre ⟨T.setVm vm₁, locs, cells, slots⟩ argsL.toArray) :
    (∃ (v : Option Value) (vm₁ : Vm) (B : Pt), s.WarmedH vm₁ ∧ Stand p l e R s m args below meth c B.U B.locs B.cells B.slots ∧ Post ⟨T.setVm vm₁, locs, cells, slots⟩ argsL.toArray v B ∧
      ∀ target, Steps p.tables e below (B.U.setTop { g with pc := g.pc + 3, stack := v.toList ++ rest }) target → Steps p.tables e below (T.setTop g) target) ∨
    (∃ (q : Addr) (vm₁ : Vm) (B : Pt), s.WarmedH vm₁ ∧ Stand p l e R s m args below meth c B.U B.locs B.cells B.slots ∧ PostX ⟨T.setVm vm₁, locs, cells, slots⟩ argsL.toArray q B ∧
      Steps p.tables e below (T.setTop g) ((B.U.setTop { g with stack := rest }).pushFrame (.throwing q))) := by
  obtain ⟨mk, methM, cM, hnamed, hmethM, -, -, -, -, -, -, hsigM⟩ := Cond.codeWith_spec hcode
  have hstatic : methM.isStatic = true := Cond.static_spec hnamed hmethM hstat
  obtain ⟨kP, hkP, -⟩ := className_of_methodNamed hnamed
  have hinitP : kP.init = .initialized := Cond.initialized_spec (findClass_of_methodNamed hnamed) hkP hinit
  obtain ⟨vm₁, X₁, hstep₁⟩ := X.invokestatic hexec hown hlink hnamed hmethM hstatic hkP hinitP hy (g := g) hg (argsL := argsL) (rest := rest) (hlen _ hsigM) hstack hdg
  rcases hK m meth c ⟨T.setVm vm₁, locs, cells, slots⟩ { g with stack := rest } (.invokestatic index) mk argsL.toArray X₁ hg hsize hdg hW (X₁.named hnamed) (hpre vm₁ X₁.warmed) with ⟨v, B, X', hpost, hsteps⟩ | ⟨q, B, X', hpost, hsteps⟩
  · exact Or.inl ⟨v, vm₁, B, X₁.warmed, X', hpost, fun target h => hstep₁ _ fun acts => by rw [doInvoke_state]; exact hsteps.trans h⟩
  · exact Or.inr ⟨q, vm₁, B, X₁.warmed, X', hpost, hstep₁ _ fun acts => by rw [doInvoke_state]; exact hsteps⟩
theorem vx_callVW (X : Stand p l e R s m args below meth c T locs cells slots) (hexec : p.tables.exec = Jvm.exec) {own C : String} {index : Nat} {y : MethodName} {bytes : ByteArray} {maxL : Nat} {ret : Option FieldType} {hh : List (Nat × Nat × Nat × Nat)}
    (hown : s.vm.findClass own = some m.cls) (hlink : (Cond.methodLink own index y).before args s = true) (hinst : (Cond.instanceMethod y).before args s = true) (hsel : (Cond.selects C y y).before args s = true)
    (hcode : (Cond.codeWith y bytes maxL ret hh).before args s = true) (hy : y.cls ≠ "java/lang/invoke/MethodHandle" ∧ y.cls ≠ "java/lang/invoke/VarHandle")
    {W9 : Nat} {Pre : Pt → Array Value → Prop} {Post : Pt → Array Value → Option Value → Pt → Prop} (hK : Back l R p e below s args y 3 W9 Pre Post)
    {b : Addr} {cellB : Cell} (hcell : T.heap[b]? = some cellB) (hobj : cellB.vm.isStatics = false) (hcls : s.vm.findClass C = some cellB.cls)
    {g : JFrame} (hg : g.method = m) (hsize : g.locals.size = c.maxLocals) {argsL rest : List Value} (hlen : ∀ sig, parseMethodDescriptor y.desc = some sig → argsL.length = sig.parameters.length)
    (hstack : g.stack = argsL.reverse ++ .ref b :: rest) (hW : 2 * g.monitorRoom + (rest.map fun v => v.category).sum ≤ W9) (hdg : decode c.code g.pc = .ok (.invokevirtual index, 3))
    (hpre : ∀ vm₁, s.WarmedH vm₁ → Pre ⟨T.setVm vm₁, locs, cells, slots⟩ (Value.ref b :: argsL).toArray) :
    ∃ (v : Option Value) (vm₁ : Vm) (B : Pt), s.WarmedH vm₁ ∧ Stand p l e R s m args below meth c B.U B.locs B.cells B.slots ∧ Post ⟨T.setVm vm₁, locs, cells, slots⟩ (Value.ref b :: argsL).toArray v B ∧
      ∀ target, Steps p.tables e below (B.U.setTop { g with pc := g.pc + 3, stack := v.toList ++ rest }) target → Steps p.tables e below (T.setTop g) target := by
  obtain ⟨mk, methM, hnamed, hmethM, hstM, habM⟩ := Cond.instanceMethod_spec hinst
  obtain ⟨m8, methM', cM, hn8, hmethM', -, -, -, -, -, -, hsigM⟩ := Cond.codeWith_spec hcode
  cases Option.some.inj (hn8.symm.trans hnamed)
  cases hmethM.symm.trans hmethM'
  obtain ⟨c2, r2, m2, q1, q2, q3, q4, kP, hkP, hkPi⟩ := Cond.selects_spec hsel
  cases hcls.symm.trans q1
  cases (State.methodFound?_of_named hnamed hy).symm.trans q2
  cases hnamed.symm.trans q3
  have hselP : selectMethod e.platform s.vm cellB.cls mk = .method mk := by rw [Launch.admits_selectMethod X.admits]; exact q4
  obtain ⟨vm₁, X₁, hstep₁⟩ := X.invokevirtual hexec hown hlink hnamed hmethM hstM hkP hkPi hy (a := b) (cell := cellB) hcell
    (fun z h => by rw [h] at hobj; cases hobj) hselP hmethM habM hkP hkPi (g := g) hg (argsL := argsL) (rest := rest) (hlen _ hsigM) hstack hdg
  obtain ⟨v, B, X', hpost, hsteps⟩ := hK m meth c ⟨T.setVm vm₁, locs, cells, slots⟩ { g with stack := rest } (.invokevirtual index) mk (Value.ref b :: argsL).toArray X₁ hg hsize hdg hW (X₁.named hnamed) (hpre vm₁ X₁.warmed)
  exact ⟨v, vm₁, B, X₁.warmed, X', hpost, fun target h => hstep₁ _ fun acts => by rw [doInvoke_state]; exact hsteps.trans h⟩
abbrev vx_CVW (R : Room) (s : State) (args : Array Value) (own C : String) (index : Nat) (y : MethodName) (bytes : ByteArray) (maxL : Nat) (ret : Option FieldType) (hh : List (Nat × Nat × Nat × Nat)) (ws : List Cond) (rm : Room) (mc ms n : Nat) : Prop :=
  (rm.cells = mc ∧ rm.slots = ms ∧ rm.frames + 1 ≤ R.frames ∧ 8 + (maxL + 11) + rm.locals ≤ R.locals ∧ (∀ w ∈ ws, ∀ (a' : Array Value) (U : State), s.WarmedH U.vm → w.before a' U = true) ∧ Cond.codeWith y bytes maxL ret hh ∈ ws) ∧
  (Cond.codeWith y bytes maxL ret hh).before args s = true ∧ (Cond.initialized y.cls).before args s = true ∧ (y.cls ≠ "java/lang/invoke/MethodHandle" ∧ y.cls ≠ "java/lang/invoke/VarHandle") ∧
  (∀ sig, parseMethodDescriptor y.desc = some sig → n = sig.parameters.length) ∧ (Cond.methodLink own index y).before args s = true ∧ (Cond.instanceMethod y).before args s = true ∧ (Cond.selects C y y).before args s = true
theorem vx_cwVW {own C : String} {index maxL mc ms : Nat} {y : MethodName} {bytes : ByteArray} {ret : Option FieldType} {hh : List (Nat × Nat × Nat × Nat)} {Ts ws ws' : List Cond} {rm : Room} (n : Nat) (ht : ∀ w ∈ Ts, w.before args s = true) (hT : GoodIn Ts (wsV own index C y ws)) (hw : ws = Cond.codeWith y bytes maxL ret hh :: ws') (hrc : rm.cells = mc) (hrs : rm.slots = ms)
    (hd : y.cls = C ∧ y.cls ≠ "java/lang/invoke/MethodHandle" ∧ y.cls ≠ "java/lang/invoke/VarHandle" ∧ (parseMethodDescriptor y.desc).map (fun d => d.parameters.length) = some n) (hR : rm.frames + 1 ≤ R.frames ∧ 8 + (maxL + 11) + rm.locals ≤ R.locals) :
    vx_CVW R s args own C index y bytes maxL ret hh ws rm mc ms n := by
  obtain ⟨hC, hd⟩ := hd
  subst hC
  have ok : ∀ w ∈ wsV own index y.cls y ws, w.before args s = true := fun w h => ht w (hT w h).1
  have hG : GoodIn Ts ws := fun w h => hT w (by unfold wsV; exact List.mem_append_right _ h)
  have hc : Cond.codeWith y bytes maxL ret hh ∈ ws := by rw [hw]; exact List.mem_cons_self
  refine ⟨⟨hrc, hrs, hR.1, hR.2, pay_in ht hG, hc⟩, ht _ (hG _ hc).1, ok _ (by simp [wsV]), ⟨hd.1, hd.2.1⟩, fun sig h => ?_, ok _ (by simp [wsV]), ok _ (by simp [wsV]), ok _ (by simp [wsV])⟩
  have h2 := hd.2.2
  rw [h] at h2
  exact (Option.some.inj h2).symm
theorem vx_runVW {y : MethodName} {bytes cc : ByteArray} {maxL nL mc ms n index : Nat} {ret : Option FieldType} {hh : List (Nat × Nat × Nat × Nat)} {ws : List Cond} {rm : Room} {Pc : Array Value → State → Prop} {Qc : Array Value → State → Outcome → State → Prop} {free : Addr → Prop} {Ts : List Cond} {own C : String} {b : Addr} {As rest : List Value} {g : JFrame}
    (S : CallFix p m c cc nL s args Ts own) (hM : Met l y ws rm Pc Qc mc ms free) (cw : vx_CVW R s args own C index y bytes maxL ret hh ws rm mc ms n) (hp : PreV s H C b Pc As)
    (hg : g.method = m) (hn : As.length = n) (hsize : g.locals.size = nL) (hstack : g.stack = As.reverse ++ .ref b :: rest) (hW : 2 * g.monitorRoom + (rest.map fun v => v.category).sum ≤ 8) (hdg : decode cc g.pc = .ok (.invokevirtual index, 3)) (hf : cells + mc ≤ R.cells ∧ slots + ms ≤ R.slots) :
    va_Run p l e R s m args below meth c H locs cells slots mc ms g rest (Qc (Value.ref b :: As).toArray) free := by
  obtain ⟨⟨hrc, hrs, hfr, hlo, hws, hcw⟩, hcode, hini, hy, hlen, hl, hin, hse⟩ := cw
  have hK : Back l R p e below s args y 3 8 (PreOf R mc ms Pc) (PostOf Qc mc ms free) := va_backW (hh := hh) (bytes := bytes) (maxL := maxL) (ret := ret) hM hp.1 hrc hrs hfr hlo hws hcw (fun a' U hW => word_at hW (Or.inl (by first | rfl | simp [Cond.onTables, Cond.keeps, Cond.steady])) hini)
  obtain ⟨hx, hb, hml, ho, -⟩ := S
  obtain ⟨-, ⟨cellB, hcB, hoB, hclB⟩, hPc⟩ := hp
  intro T hT X
  obtain ⟨v, vm₁, ⟨U', l2, c2, s2⟩, hW₁, X', ⟨g', mk, t, L, e1, e2, hq, h1, hL, h2, h3⟩, st⟩ := vx_callVW X hx (C := C) (hh := hh) (bytes := bytes) (maxL := maxL) (ret := ret) ho hl hin hse hcode hy hK (by rw [hT]; exact hcB) hoB hclB hg (hsize.trans hml.symm) (argsL := As) (rest := rest) (fun sig h => hn.trans (hlen sig h)) hstack hW (by rw [hb]; exact hdg)
    (fun vm₁ hW₁ => ⟨hf.1, hf.2, hPc (T.setVm vm₁) hT hW₁⟩)
  dsimp only [Pt.U, Pt.locs, Pt.cells, Pt.slots] at X' e1 e2 h1 h2 h3 st
  subst h1; subst h2; subst h3
  exact ⟨v, (T.setVm vm₁).calling g' mk (Value.ref b :: As).toArray, t, U', L, hT, X', hL, e1, e2, hq, st⟩
section
variable {y : MethodName} {bytes cc : ByteArray} {maxL nL mc ms n index : Nat} {ret : Option FieldType} {ws : List Cond} {rm : Room} {Pc : Array Value → State → Prop} {Qc : Array Value → State → Outcome → State → Prop} {XC : String → State → State → Prop} {free : Addr → Prop} {Ts : List Cond} {own C : String} {b : Addr} {As rest : List Value} {g : JFrame}
theorem vx_runVX {hh : List (Nat × Nat × Nat × Nat)} (S : CallFix p m c cc nL s args Ts own) (hM : vx_Met l y ws rm Pc Qc XC mc ms free) (cw : vx_CVW R s args own C index y bytes maxL ret hh ws rm mc ms n) (hp : PreV s H C b Pc As)
    (hg : g.method = m) (hn : As.length = n) (hsize : g.locals.size = nL) (hstack : g.stack = As.reverse ++ .ref b :: rest) (hW : 2 * g.monitorRoom + (rest.map fun v => v.category).sum ≤ 8) (hdg : decode cc g.pc = .ok (.invokevirtual index, 3)) (hf : cells + mc ≤ R.cells ∧ slots + ms ≤ R.slots) :
    vx_Run p l e R s m args below meth c H locs cells slots mc ms g rest (Qc (Value.ref b :: As).toArray) XC free := by
  obtain ⟨⟨hrc, hrs, hfr, hlo, hws, hcw⟩, hcode, hini, hy, hlen, hl, hin, hse⟩ := cw
  have hK : vx_Back l R p e below s args y 3 8 (PreOf R mc ms Pc) (PostOf Qc mc ms free) (vx_Post XC mc ms free) := vx_backW (hh := hh) (bytes := bytes) (maxL := maxL) (ret := ret) hM hp.1 hrc hrs hfr hlo hws hcw (fun a' U hW => word_at hW (Or.inl (by first | rfl | simp [Cond.onTables, Cond.keeps, Cond.steady])) hini)
  obtain ⟨hx, hb, hml, ho, -⟩ := S
  obtain ⟨-, ⟨cellB, hcB, hoB, hclB⟩, hPc⟩ := hp
  intro T hT X
  rcases vx_callVX X hx (C := C) (hh := hh) (bytes := bytes) (maxL := maxL) (ret := ret) ho hl hin hse hcode hy hK (by rw [hT]; exact hcB) hoB hclB hg (hsize.trans hml.symm) (argsL := As) (rest := rest) (fun sig h => hn.trans (hlen sig h)) hstack hW (by rw [hb]; exact hdg)
    (fun vm₁ hW₁ => ⟨hf.1, hf.2, hPc (T.setVm vm₁) hT hW₁⟩) with ⟨v, vm₁, ⟨U', l2, c2, s2⟩, hW₁, X', ⟨g', mk, t, L, e1, e2, hq, h1, hL, h2, h3⟩, st⟩ | ⟨q, vm₁, ⟨U', l2, c2, s2⟩, hW₁, X', ⟨g', mk, t, L, E, ce, e1, e2, hq, hce, hcv, hcl, h1, hL, h2, h3⟩, st⟩
  · dsimp only [Pt.U, Pt.locs, Pt.cells, Pt.slots] at X' e1 e2 h1 h2 h3 st
    subst h1; subst h2; subst h3
    exact Or.inl ⟨v, (T.setVm vm₁).calling g' mk (Value.ref b :: As).toArray, t, U', L, hT, X', hL, e1, e2, hq, st⟩
  · dsimp only [Pt.U, Pt.locs, Pt.cells, Pt.slots] at X' e1 e2 h1 h2 h3 st hcl
    subst h1; subst h2; subst h3
    exact Or.inr ⟨q, (T.setVm vm₁).calling g' mk (Value.ref b :: As).toArray, t, U', L, E, ce, hT, X', hL, e1, e2, hq, hce, hcv, vx_cls hW₁ hcl, st⟩
theorem vx_runSX {hh : List (Nat × Nat × Nat × Nat)} (S : CallFix p m c cc nL s args Ts own) (hM : vx_Met l y ws rm Pc Qc XC mc ms free) (cw : vx_CSW R s args own index y bytes maxL ret hh ws rm mc ms n) (hp : PreS s H Pc As)
    (hg : g.method = m) (hn : As.length = n) (hsize : g.locals.size = nL) (hstack : g.stack = As.reverse ++ rest) (hW : 2 * g.monitorRoom + (rest.map fun v => v.category).sum ≤ 8) (hdg : decode cc g.pc = .ok (.invokestatic index, 3)) (hf : cells + mc ≤ R.cells ∧ slots + ms ≤ R.slots) :
    vx_Run p l e R s m args below meth c H locs cells slots mc ms g rest (Qc As.toArray) XC free := by
  obtain ⟨⟨hrc, hrs, hfr, hlo, hws, hcw⟩, hcode, hini, hy, hlen, hl, hstt⟩ := cw
  have hK : vx_Back l R p e below s args y 3 8 (PreOf R mc ms Pc) (PostOf Qc mc ms free) (vx_Post XC mc ms free) := vx_backW (hh := hh) (bytes := bytes) (maxL := maxL) (ret := ret) hM hp.1 hrc hrs hfr hlo hws hcw (fun a' U hW => word_at hW (Or.inl (by first | rfl | simp [Cond.onTables, Cond.keeps, Cond.steady])) hini)
  obtain ⟨hx, hb, hml, ho, -⟩ := S
  intro T hT X
  rcases vx_callSX X hx (hh := hh) (bytes := bytes) (maxL := maxL) (ret := ret) ho hl hstt hini hcode hy hK hg (hsize.trans hml.symm) (argsL := As) (rest := rest) (fun sig h => hn.trans (hlen sig h)) hstack hW (by rw [hb]; exact hdg)
    (fun vm₁ hW₁ => ⟨hf.1, hf.2, hp.2 (T.setVm vm₁) hT hW₁⟩) with ⟨v, vm₁, ⟨U', l2, c2, s2⟩, hW₁, X', ⟨g', mk, t, L, e1, e2, hq, h1, hL, h2, h3⟩, st⟩ | ⟨q, vm₁, ⟨U', l2, c2, s2⟩, hW₁, X', ⟨g', mk, t, L, E, ce, e1, e2, hq, hce, hcv, hcl, h1, hL, h2, h3⟩, st⟩
  · dsimp only [Pt.U, Pt.locs, Pt.cells, Pt.slots] at X' e1 e2 h1 h2 h3 st
    subst h1; subst h2; subst h3
    exact Or.inl ⟨v, (T.setVm vm₁).calling g' mk As.toArray, t, U', L, hT, X', hL, e1, e2, hq, st⟩
  · dsimp only [Pt.U, Pt.locs, Pt.cells, Pt.slots] at X' e1 e2 h1 h2 h3 st hcl
    subst h1; subst h2; subst h3
    exact Or.inr ⟨q, (T.setVm vm₁).calling g' mk As.toArray, t, U', L, E, ce, hT, X', hL, e1, e2, hq, hce, hcv, vx_cls hW₁ hcl, st⟩
end
end VXH
theorem vx_ofWH {l : Launch} {y : MethodName} {ws ws' : List Cond} {rm : Room} {Pc : Array Value → State → Prop} {Qc : Array Value → State → Outcome → State → Prop} {XC : String → State → State → Prop} {mc ms : Nat} {free : Addr → Prop} {cc : ByteArray} {maxL : Nat} {ret : Option FieldType} {hh : List (Nat × Nat × Nat × Nat)}
    (hy : plainName y.cls = true) (hw : ws = Cond.codeWith y cc maxL ret hh :: ws')
    (body : ∀ p e s m args below meth c s₁, BodyLoose p l y (headSpec ws rm) cc maxL ret e s m args below meth c s₁ → c.maxLocals = maxL → Pc args s →
      W p l e (headSpec ws rm).room s m args below meth c s.heap [] 0 0 (vx_MQ below Qc XC args s mc ms free) (entryFrame m args maxL)) : vx_Met l y ws rm Pc Qc XC mc ms free := by
  refine MetFree.of_bodyS (code := cc) (maxLocals := maxL) (ret := ret) hy ?_ ?_
  · intro args s m h hn
    obtain ⟨m9, meth, c, hn9, h1, h2, h3, h4, -, h5, h6, -⟩ := Cond.codeWith_spec (atoms_spec (ws := ws) h _ (by rw [hw]; exact List.mem_cons_self))
    cases hn.symm.trans hn9
    exact ⟨meth, c, h1, h2, h3, h4, h5, h6⟩
  · intro p e s m args below meth c s₁ B hml hP _
    have hh0 : s₁.heap = s.heap := by rw [B.state]; rfl
    obtain ⟨t, a1, o, b1, b2, b3⟩ := body p e s m args below meth c s₁ B hml hP s₁ hh0 (Stand.of_body B)
    exact ⟨t, o, a1, b1, b2, b3⟩
/-! ===== END ===== -/
end
section
/-! ===== BEGIN printed: names, fields, word lists, decode rows ===== -/
def RX0 : String := "FableIndex$Book"
def TX0 : u_T := fun k => match k with
  | 0 => ("FableIndex$Book", "count", "I", false)
  | 1 => ("FableIndex$Book", "moral", "[I", true)
  | 2 => ("FableIndex$Book", "beasts", "[I", true)
  | 3 => ("FableIndex$Book", "home", "[I", true)
  | 4 => ("FableIndex$Book", "parent", "[I", true)
  | 5 => ("FableIndex$Book", "variants", "[I", true)
  | _ => ("FableIndex$Book", "ancestors", "[I", true)
def tyX0 : Nat → FieldType := fun k => match k with
  | 0 => .int
  | 1 => .array .int
  | 2 => .array .int
  | 3 => .array .int
  | 4 => .array .int
  | 5 => .array .int
  | _ => .array .int
abbrev wsX00 : List Cond := u_ws RX0 TX0 7
theorem nmX0 : ∀ a, a < 7 → ∀ b, b < 7 → a ≠ b → (TX0 a).2.1 ≠ (TX0 b).2.1 := by decide +kernel
theorem tyX0_ok : ∀ k, k < 7 → parseFieldDescriptor (TX0 k).2.2.1 = some (tyX0 k) := by decide +kernel
abbrev cX0_init : ByteArray := prog_2_method_1_code
def yX0_init : MethodName := ⟨RX0, "<init>", "()V"⟩
abbrev cX0_write : ByteArray := prog_2_method_2_code
def yX0_write : MethodName := ⟨RX0, "write", "(IIII)I"⟩
abbrev cX0_all : ByteArray := prog_2_method_3_code
def yX0_all : MethodName := ⟨RX0, "all", "()I"⟩
abbrev cX0_withMoral : ByteArray := prog_2_method_4_code
def yX0_withMoral : MethodName := ⟨RX0, "withMoral", "(I)I"⟩
abbrev cX0_withBeast : ByteArray := prog_2_method_5_code
def yX0_withBeast : MethodName := ⟨RX0, "withBeast", "(I)I"⟩
def RX1 : String := "FableIndex$Land"
def TX1 : u_T := fun k => match k with
  | 0 => ("FableIndex$Land", "ways", "[I", true)
  | 1 => ("FableIndex$Land", "bannedMorals", "[I", true)
  | 2 => ("FableIndex$Land", "bannedBeasts", "[I", true)
  | 3 => ("FableIndex$Land", "told", "[I", true)
  | 4 => ("FableIndex$Land", "allowed", "[I", true)
  | 5 => ("FableIndex$Land", "kept", "[I", true)
  | _ => ("FableIndex$Land", "hushed", "I", false)
def tyX1 : Nat → FieldType := fun k => match k with
  | 0 => .array .int
  | 1 => .array .int
  | 2 => .array .int
  | 3 => .array .int
  | 4 => .array .int
  | 5 => .array .int
  | _ => .int
abbrev wsX10 : List Cond := u_ws RX1 TX1 7
theorem nmX1 : ∀ a, a < 7 → ∀ b, b < 7 → a ≠ b → (TX1 a).2.1 ≠ (TX1 b).2.1 := by decide +kernel
theorem tyX1_ok : ∀ k, k < 7 → parseFieldDescriptor (TX1 k).2.2.1 = some (tyX1 k) := by decide +kernel
abbrev cX1_init : ByteArray := prog_3_method_1_code
def yX1_init : MethodName := ⟨RX1, "<init>", "()V"⟩
abbrev cX1_turnWay : ByteArray := prog_3_method_3_code
def yX1_turnWay : MethodName := ⟨RX1, "turnWay", "(II)V"⟩
abbrev cX1_bans : ByteArray := prog_3_method_4_code
def yX1_bans : MethodName := ⟨RX1, "bans", "(LFableIndex$Book;II)Z"⟩
abbrev cX1_welcome : ByteArray := prog_3_method_5_code
def yX1_welcome : MethodName := ⟨RX1, "welcome", "(LFableIndex$Book;I)I"⟩
abbrev cX1_count : ByteArray := prog_3_method_6_code
def yX1_count : MethodName := ⟨RX1, "count", "(I)I"⟩
abbrev cX1_live : ByteArray := prog_3_method_7_code
def yX1_live : MethodName := ⟨RX1, "live", "(LFableIndex$Book;I)V"⟩
abbrev cX1_hush : ByteArray := prog_3_method_8_code
def yX1_hush : MethodName := ⟨RX1, "hush", "()V"⟩
abbrev cX1_spread : ByteArray := prog_3_method_9_code
def yX1_spread : MethodName := ⟨RX1, "spread", "(LFableIndex$Book;)Z"⟩
abbrev cX1_arriving : ByteArray := prog_3_method_10_code
def yX1_arriving : MethodName := ⟨RX1, "arriving", "(I)I"⟩
abbrev cX1_admitted : ByteArray := prog_3_method_11_code
def yX1_admitted : MethodName := ⟨RX1, "admitted", "(LFableIndex$Book;II)I"⟩
def RX2 : String := "FableIndex"
def TX2 : u_T := fun k => match k with
  | 0 => ("FableIndex", "book", "LFableIndex$Book;", true)
  | 1 => ("FableIndex", "land", "LFableIndex$Land;", true)
  | 2 => ("FableIndex", "trial", "LFableIndex$Land;", true)
  | _ => ("FableIndex", "season", "I", false)
def tyX2 : Nat → FieldType := fun k => match k with
  | 0 => .object "FableIndex$Book"
  | 1 => .object "FableIndex$Land"
  | 2 => .object "FableIndex$Land"
  | _ => .int
abbrev wsX20 : List Cond := u_ws RX2 TX2 4
theorem nmX2 : ∀ a, a < 4 → ∀ b, b < 4 → a ≠ b → (TX2 a).2.1 ≠ (TX2 b).2.1 := by decide +kernel
theorem tyX2_ok : ∀ k, k < 4 → parseFieldDescriptor (TX2 k).2.2.1 = some (tyX2 k) := by decide +kernel
abbrev cX2_init : ByteArray := prog_1_method_1_code
def yX2_init : MethodName := ⟨RX2, "<init>", "()V"⟩
abbrev cX2_addFable : ByteArray := prog_1_method_2_code
def yX2_addFable : MethodName := ⟨RX2, "addFable", "(III)I"⟩
abbrev cX2_addBeast : ByteArray := prog_1_method_3_code
def yX2_addBeast : MethodName := ⟨RX2, "addBeast", "(II)I"⟩
abbrev cX2_addVariant : ByteArray := prog_1_method_4_code
def yX2_addVariant : MethodName := ⟨RX2, "addVariant", "(IIII)I"⟩
abbrev cX2_turnPass : ByteArray := prog_1_method_5_code
def yX2_turnPass : MethodName := ⟨RX2, "turnPass", "(II)Z"⟩
abbrev cX2_turnMoral : ByteArray := prog_1_method_6_code
def yX2_turnMoral : MethodName := ⟨RX2, "turnMoral", "(II)Z"⟩
abbrev cX2_turnBeast : ByteArray := prog_1_method_7_code
def yX2_turnBeast : MethodName := ⟨RX2, "turnBeast", "(II)Z"⟩
abbrev cX2_tell : ByteArray := prog_1_method_8_code
def yX2_tell : MethodName := ⟨RX2, "tell", "(II)I"⟩
abbrev cX2_forget : ByteArray := prog_1_method_9_code
def yX2_forget : MethodName := ⟨RX2, "forget", "(II)I"⟩
abbrev cX2_passSeasons : ByteArray := prog_1_method_10_code
def yX2_passSeasons : MethodName := ⟨RX2, "passSeasons", "(I)I"⟩
abbrev cX2_moralOf : ByteArray := prog_1_method_11_code
def yX2_moralOf : MethodName := ⟨RX2, "moralOf", "(I)I"⟩
abbrev cX2_beastsOf : ByteArray := prog_1_method_12_code
def yX2_beastsOf : MethodName := ⟨RX2, "beastsOf", "(I)I"⟩
abbrev cX2_hasBeast : ByteArray := prog_1_method_13_code
def yX2_hasBeast : MethodName := ⟨RX2, "hasBeast", "(II)Z"⟩
abbrev cX2_homeOf : ByteArray := prog_1_method_14_code
def yX2_homeOf : MethodName := ⟨RX2, "homeOf", "(I)I"⟩
abbrev cX2_parentOf : ByteArray := prog_1_method_15_code
def yX2_parentOf : MethodName := ⟨RX2, "parentOf", "(I)I"⟩
abbrev cX2_variantsOf : ByteArray := prog_1_method_16_code
def yX2_variantsOf : MethodName := ⟨RX2, "variantsOf", "(I)I"⟩
abbrev cX2_valleysOf : ByteArray := prog_1_method_17_code
def yX2_valleysOf : MethodName := ⟨RX2, "valleysOf", "(I)I"⟩
abbrev cX2_kinship : ByteArray := prog_1_method_19_code
def yX2_kinship : MethodName := ⟨RX2, "kinship", "(II)I"⟩
abbrev cX2_sharedBeasts : ByteArray := prog_1_method_20_code
def yX2_sharedBeasts : MethodName := ⟨RX2, "sharedBeasts", "(II)I"⟩
abbrev cX2_isOpen : ByteArray := prog_1_method_21_code
def yX2_isOpen : MethodName := ⟨RX2, "isOpen", "(II)Z"⟩
abbrev cX2_isBanned : ByteArray := prog_1_method_22_code
def yX2_isBanned : MethodName := ⟨RX2, "isBanned", "(II)Z"⟩
abbrev cX2_isTold : ByteArray := prog_1_method_23_code
def yX2_isTold : MethodName := ⟨RX2, "isTold", "(II)Z"⟩
abbrev cX2_toldIn : ByteArray := prog_1_method_24_code
def yX2_toldIn : MethodName := ⟨RX2, "toldIn", "(I)I"⟩
abbrev cX2_allowedIn : ByteArray := prog_1_method_25_code
def yX2_allowedIn : MethodName := ⟨RX2, "allowedIn", "(I)I"⟩
abbrev cX2_bansOf : ByteArray := prog_1_method_26_code
def yX2_bansOf : MethodName := ⟨RX2, "bansOf", "(I)I"⟩
abbrev cX2_fables : ByteArray := prog_1_method_27_code
def yX2_fables : MethodName := ⟨RX2, "fables", "()I"⟩
abbrev cX2_season : ByteArray := prog_1_method_28_code
def yX2_season : MethodName := ⟨RX2, "season", "()I"⟩
abbrev cX2_tellings : ByteArray := prog_1_method_29_code
def yX2_tellings : MethodName := ⟨RX2, "tellings", "()I"⟩
abbrev cX2_silenced : ByteArray := prog_1_method_30_code
def yX2_silenced : MethodName := ⟨RX2, "silenced", "()I"⟩
abbrev cX2_fablesWithMoral : ByteArray := prog_1_method_31_code
def yX2_fablesWithMoral : MethodName := ⟨RX2, "fablesWithMoral", "(I)I"⟩
abbrev cX2_fablesWithBeast : ByteArray := prog_1_method_32_code
def yX2_fablesWithBeast : MethodName := ⟨RX2, "fablesWithBeast", "(I)I"⟩
abbrev cX2_favouriteMoral : ByteArray := prog_1_method_33_code
def yX2_favouriteMoral : MethodName := ⟨RX2, "favouriteMoral", "()I"⟩
abbrev cX2_favouriteBeast : ByteArray := prog_1_method_34_code
def yX2_favouriteBeast : MethodName := ⟨RX2, "favouriteBeast", "()I"⟩
abbrev cX2_meanBeasts : ByteArray := prog_1_method_38_code
def yX2_meanBeasts : MethodName := ⟨RX2, "meanBeasts", "()D"⟩
abbrev cX2_needFable : ByteArray := prog_1_method_45_code
def yX2_needFable : MethodName := ⟨RX2, "needFable", "(I)V"⟩
abbrev cX2_needFreePage : ByteArray := prog_1_method_46_code
def yX2_needFreePage : MethodName := ⟨RX2, "needFreePage", "()V"⟩
abbrev cX2_needMoral : ByteArray := prog_1_method_47_code
def yX2_needMoral : MethodName := ⟨RX2, "needMoral", "(I)V"⟩
abbrev cX2_needBeast : ByteArray := prog_1_method_48_code
def yX2_needBeast : MethodName := ⟨RX2, "needBeast", "(I)V"⟩
abbrev cX2_needValley : ByteArray := prog_1_method_49_code
def yX2_needValley : MethodName := ⟨RX2, "needValley", "(I)V"⟩
abbrev cX2_needSeasons : ByteArray := prog_1_method_50_code
def yX2_needSeasons : MethodName := ⟨RX2, "needSeasons", "(II)V"⟩
abbrev cX2_has : ByteArray := prog_1_method_51_code
def yX2_has : MethodName := ⟨RX2, "has", "(II)Z"⟩
abbrev cX2_turned : ByteArray := prog_1_method_52_code
def yX2_turned : MethodName := ⟨RX2, "turned", "(II)I"⟩
abbrev cX2_size : ByteArray := prog_1_method_53_code
def yX2_size : MethodName := ⟨RX2, "size", "(I)I"⟩
abbrev cX2_smallestAlone : ByteArray := prog_1_method_55_code
def yX2_smallestAlone : MethodName := ⟨RX2, "smallestAlone", "(I)I"⟩
def RX3 : String := "FableIndexLaw$Sim"
def TX3 : u_T := fun k => match k with
  | 0 => ("FableIndexLaw$Sim", "n", "I", false)
  | 1 => ("FableIndexLaw$Sim", "season", "I", false)
  | 2 => ("FableIndexLaw$Sim", "silenced", "I", false)
  | 3 => ("FableIndexLaw$Sim", "fables", "[[I", true)
  | 4 => ("FableIndexLaw$Sim", "beasts", "[[Z", true)
  | 5 => ("FableIndexLaw$Sim", "told", "[[Z", false)
  | 6 => ("FableIndexLaw$Sim", "morals", "[[Z", true)
  | 7 => ("FableIndexLaw$Sim", "bans", "[[Z", true)
  | _ => ("FableIndexLaw$Sim", "passes", "[[Z", true)
def tyX3 : Nat → FieldType := fun k => match k with
  | 0 => .int
  | 1 => .int
  | 2 => .int
  | 3 => .array (.array .int)
  | 4 => .array (.array .boolean)
  | 5 => .array (.array .boolean)
  | 6 => .array (.array .boolean)
  | 7 => .array (.array .boolean)
  | _ => .array (.array .boolean)
abbrev wsX30 : List Cond := u_ws RX3 TX3 9
theorem nmX3 : ∀ a, a < 9 → ∀ b, b < 9 → a ≠ b → (TX3 a).2.1 ≠ (TX3 b).2.1 := by decide +kernel
theorem tyX3_ok : ∀ k, k < 9 → parseFieldDescriptor (TX3 k).2.2.1 = some (tyX3 k) := by decide +kernel
abbrev cX3_init : ByteArray := prog_5_method_1_code
def yX3_init : MethodName := ⟨RX3, "<init>", "()V"⟩
abbrev cX3_isBanned : ByteArray := prog_5_method_3_code
def yX3_isBanned : MethodName := ⟨RX3, "isBanned", "(II)Z"⟩
abbrev cX3_pass : ByteArray := prog_5_method_4_code
def yX3_pass : MethodName := ⟨RX3, "pass", "()V"⟩
abbrev cX3_behind : ByteArray := prog_5_method_5_code
def yX3_behind : MethodName := ⟨RX3, "behind", "(I)LFableIndexLaw$Sim;"⟩
abbrev cX3_valleys : ByteArray := prog_5_method_6_code
def yX3_valleys : MethodName := ⟨RX3, "valleys", "(I)I"⟩
abbrev cX3_tellings : ByteArray := prog_5_method_7_code
def yX3_tellings : MethodName := ⟨RX3, "tellings", "()I"⟩
abbrev cX3_beastsOf : ByteArray := prog_5_method_8_code
def yX3_beastsOf : MethodName := ⟨RX3, "beastsOf", "(I)I"⟩
abbrev cX3_hasVariant : ByteArray := prog_5_method_9_code
def yX3_hasVariant : MethodName := ⟨RX3, "hasVariant", "(I)Z"⟩
abbrev cX3_loved : ByteArray := prog_5_method_10_code
def yX3_loved : MethodName := ⟨RX3, "loved", "(I)I"⟩
abbrev cX3_favourite : ByteArray := prog_5_method_11_code
def yX3_favourite : MethodName := ⟨RX3, "favourite", "(II)I"⟩
abbrev cX3_isSame : ByteArray := prog_5_method_12_code
def yX3_isSame : MethodName := ⟨RX3, "isSame", "(LFableIndex;)Z"⟩
def RX4 : String := "FableIndexModel"
def TX4 : u_T := fun k => match k with
  | _ => ("", "", "", false)
def tyX4 : Nat → FieldType := fun k => match k with
  | _ => .int
abbrev wsX40 : List Cond := u_ws RX4 TX4 0
theorem nmX4 : ∀ a, a < 0 → ∀ b, b < 0 → a ≠ b → (TX4 a).2.1 ≠ (TX4 b).2.1 := by decide +kernel
theorem tyX4_ok : ∀ k, k < 0 → parseFieldDescriptor (TX4 k).2.2.1 = some (tyX4 k) := by decide +kernel
def RJx8e188 : String := "java/lang/Cloneable"
def TJx8e188 : u_T := fun k => match k with
  | _ => ("", "", "", false)
def tyJx8e188 : Nat → FieldType := fun k => match k with
  | _ => .int
abbrev wsJx8e1880 : List Cond := u_ws RJx8e188 TJx8e188 0
theorem nmJx8e188 : ∀ a, a < 0 → ∀ b, b < 0 → a ≠ b → (TJx8e188 a).2.1 ≠ (TJx8e188 b).2.1 := by decide +kernel
theorem tyJx8e188_ok : ∀ k, k < 0 → parseFieldDescriptor (TJx8e188 k).2.2.1 = some (tyJx8e188 k) := by decide +kernel
def RJ6 : String := "java/lang/Integer"
def TJ6 : u_T := fun k => match k with
  | _ => ("", "", "", false)
def tyJ6 : Nat → FieldType := fun k => match k with
  | _ => .int
abbrev wsJ60 : List Cond := u_ws RJ6 TJ6 0
theorem nmJ6 : ∀ a, a < 0 → ∀ b, b < 0 → a ≠ b → (TJ6 a).2.1 ≠ (TJ6 b).2.1 := by decide +kernel
theorem tyJ6_ok : ∀ k, k < 0 → parseFieldDescriptor (TJ6 k).2.2.1 = some (tyJ6 k) := by decide +kernel
abbrev cJ6_bitCount_0f7a4 : ByteArray := prog_12_method_49_code
def yJ6_bitCount_0f7a4 : MethodName := ⟨RJ6, "bitCount", "(I)I"⟩
def RJ0 : String := "java/lang/String"
def TJ0 : u_T := fun k => match k with
  | _ => ("", "", "", false)
def tyJ0 : Nat → FieldType := fun k => match k with
  | _ => .int
abbrev wsJ00 : List Cond := u_ws RJ0 TJ0 0
theorem nmJ0 : ∀ a, a < 0 → ∀ b, b < 0 → a ≠ b → (TJ0 a).2.1 ≠ (TJ0 b).2.1 := by decide +kernel
theorem tyJ0_ok : ∀ k, k < 0 → parseFieldDescriptor (TJ0 k).2.2.1 = some (tyJ0 k) := by decide +kernel
def RL : String := "FableIndexLaw"
abbrev cL_below : ByteArray := method_2_code
def yL_below : MethodName := ⟨RL, "below", "(II)I"⟩
abbrev cL_cell : ByteArray := method_3_code
def yL_cell : MethodName := ⟨RL, "cell", "([II)I"⟩
abbrev cL_act : ByteArray := method_4_code
def yL_act : MethodName := ⟨RL, "act", "(LFableIndex;LFableIndexLaw$Sim;I)Z"⟩
abbrev cL_build : ByteArray := method_5_code
def yL_build : MethodName := ⟨RL, "build", "(LFableIndex;[I)LFableIndexLaw$Sim;"⟩
abbrev cL_law : ByteArray := code
def yL_law : MethodName := ⟨RL, "law", "([I)Z"⟩
def wsX0_init : List Cond := .code yX0_init cX0_init 1 none :: ([.methodLink RX0 3 objectInit, .instanceMethod objectInit, .code objectInit ⟨#[0xb1]⟩ 1 none, .fieldLink RX0 9 "FableIndex$Book" "count" "I", .arrayClass .int, .fieldLink RX0 15 "FableIndex$Book" "moral" "[I", .fieldLink RX0 19 "FableIndex$Book" "beasts" "[I", .fieldLink RX0 22 "FableIndex$Book" "home" "[I", .fieldLink RX0 25 "FableIndex$Book" "parent" "[I", .fieldLink RX0 28 "FableIndex$Book" "variants" "[I", .fieldLink RX0 31 "FableIndex$Book" "ancestors" "[I"] ++ wsX00)
def wsX0_write : List Cond := .code yX0_write cX0_write 6 (some .int) :: ([.fieldLink RX0 9 "FableIndex$Book" "count" "I", .fieldLink RX0 15 "FableIndex$Book" "moral" "[I", .fieldLink RX0 19 "FableIndex$Book" "beasts" "[I", .fieldLink RX0 22 "FableIndex$Book" "home" "[I", .fieldLink RX0 25 "FableIndex$Book" "parent" "[I", .fieldLink RX0 28 "FableIndex$Book" "variants" "[I", .fieldLink RX0 31 "FableIndex$Book" "ancestors" "[I"] ++ wsX00)
def wsX0_all : List Cond := .code yX0_all cX0_all 1 (some .int) :: ([.fieldLink RX0 9 "FableIndex$Book" "count" "I"] ++ wsX00)
def wsX0_withMoral : List Cond := .code yX0_withMoral cX0_withMoral 4 (some .int) :: ([.fieldLink RX0 9 "FableIndex$Book" "count" "I", .fieldLink RX0 15 "FableIndex$Book" "moral" "[I"] ++ wsX00)
def wsX2_has : List Cond := .code yX2_has cX2_has 2 (some .boolean) :: ([])
def wsX0_withBeast : List Cond := .code yX0_withBeast cX0_withBeast 4 (some .int) :: ([.fieldLink RX0 9 "FableIndex$Book" "count" "I", .fieldLink RX0 19 "FableIndex$Book" "beasts" "[I", .static yX2_has, .initialized RX2, .code yX2_has cX2_has 2 (some .boolean)] ++ wsX00)
def wsX1_init : List Cond := .code yX1_init cX1_init 1 none :: ([.methodLink RX1 3 objectInit, .instanceMethod objectInit, .code objectInit ⟨#[0xb1]⟩ 1 none, .arrayClass .int, .fieldLink RX1 9 "FableIndex$Land" "ways" "[I", .fieldLink RX1 15 "FableIndex$Land" "bannedMorals" "[I", .fieldLink RX1 18 "FableIndex$Land" "bannedBeasts" "[I", .fieldLink RX1 21 "FableIndex$Land" "told" "[I", .fieldLink RX1 24 "FableIndex$Land" "allowed" "[I", .fieldLink RX1 27 "FableIndex$Land" "kept" "[I", .fieldLink RX1 30 "FableIndex$Land" "hushed" "I"] ++ wsX10)
def wsX2_turned : List Cond := .code yX2_turned cX2_turned 2 (some .int) :: ([])
def wsX1_turnWay : List Cond := .code yX1_turnWay cX1_turnWay 3 none :: ([.fieldLink RX1 9 "FableIndex$Land" "ways" "[I", .static yX2_turned, .initialized RX2, .code yX2_turned cX2_turned 2 (some .int)] ++ wsX10)
def wsX1_bans : List Cond := .code yX1_bans cX1_bans 4 (some .boolean) :: ([.fieldLink RX1 15 "FableIndex$Land" "bannedMorals" "[I", .fieldLink RX1 38 "FableIndex$Book" "moral" "[I", .fieldLink RX1 18 "FableIndex$Land" "bannedBeasts" "[I", .fieldLink RX1 47 "FableIndex$Book" "beasts" "[I", .static yX2_has, .initialized RX2, .code yX2_has cX2_has 2 (some .boolean)] ++ wsX10 ++ wsX00)
def wsX1_welcome : List Cond := .code yX1_welcome cX1_welcome 5 (some .int) :: ([.fieldLink RX1 50 "FableIndex$Book" "count" "I", .methodLink RX1 53 yX1_bans, .instanceMethod yX1_bans, .selects RX1 yX1_bans yX1_bans, .initialized RX1, .code yX1_bans cX1_bans 4 (some .boolean), .fieldLink RX1 15 "FableIndex$Land" "bannedMorals" "[I", .fieldLink RX1 38 "FableIndex$Book" "moral" "[I", .fieldLink RX1 18 "FableIndex$Land" "bannedBeasts" "[I", .fieldLink RX1 47 "FableIndex$Book" "beasts" "[I", .static yX2_has, .initialized RX2, .code yX2_has cX2_has 2 (some .boolean)] ++ wsX00 ++ wsX10)
def wsJ6_bitCount_0f7a4 : List Cond := .code yJ6_bitCount_0f7a4 cJ6_bitCount_0f7a4 1 (some .int) :: ([.constant RJ6 265 (1431655765), .constant RJ6 266 (858993459), .constant RJ6 267 (252645135)])
def wsX2_size : List Cond := .code yX2_size cX2_size 1 (some .int) :: ([.methodLink RX2 253 yJ6_bitCount_0f7a4, .static yJ6_bitCount_0f7a4, .initialized RJ6, .code yJ6_bitCount_0f7a4 cJ6_bitCount_0f7a4 1 (some .int), .constant RJ6 265 (1431655765), .constant RJ6 266 (858993459), .constant RJ6 267 (252645135)])
def wsX1_count : List Cond := .code yX1_count cX1_count 4 (some .int) :: ([.fieldLink RX1 21 "FableIndex$Land" "told" "[I", .static yX2_size, .initialized RX2, .code yX2_size cX2_size 1 (some .int), .methodLink RX2 253 yJ6_bitCount_0f7a4, .static yJ6_bitCount_0f7a4, .initialized RJ6, .code yJ6_bitCount_0f7a4 cJ6_bitCount_0f7a4 1 (some .int), .constant RJ6 265 (1431655765), .constant RJ6 266 (858993459), .constant RJ6 267 (252645135)] ++ wsX10)
def wsX1_hush : List Cond := .code yX1_hush cX1_hush 2 none :: ([.fieldLink RX1 27 "FableIndex$Land" "kept" "[I", .fieldLink RX1 21 "FableIndex$Land" "told" "[I", .fieldLink RX1 24 "FableIndex$Land" "allowed" "[I", .fieldLink RX1 30 "FableIndex$Land" "hushed" "I", .static yX2_size, .initialized RX2, .code yX2_size cX2_size 1 (some .int), .methodLink RX2 253 yJ6_bitCount_0f7a4, .static yJ6_bitCount_0f7a4, .initialized RJ6, .code yJ6_bitCount_0f7a4 cJ6_bitCount_0f7a4 1 (some .int), .constant RJ6 265 (1431655765), .constant RJ6 266 (858993459), .constant RJ6 267 (252645135)] ++ wsX10)
def wsX1_arriving : List Cond := .code yX1_arriving cX1_arriving 4 (some .int) :: ([.fieldLink RX1 9 "FableIndex$Land" "ways" "[I", .fieldLink RX1 27 "FableIndex$Land" "kept" "[I", .static yX2_has, .initialized RX2, .code yX2_has cX2_has 2 (some .boolean)] ++ wsX10)
def wsX2_smallestAlone : List Cond := .code yX2_smallestAlone cX2_smallestAlone 1 (some .int) :: ([])
def wsX1_admitted : List Cond := .code yX1_admitted cX1_admitted 7 (some .int) :: ([.fieldLink RX1 24 "FableIndex$Land" "allowed" "[I", .fieldLink RX1 50 "FableIndex$Book" "count" "I", .fieldLink RX1 15 "FableIndex$Land" "bannedMorals" "[I", .fieldLink RX1 38 "FableIndex$Book" "moral" "[I", .fieldLink RX1 79 "FableIndex$Book" "variants" "[I", .static yX2_has, .initialized RX2, .code yX2_has cX2_has 2 (some .boolean), .static yX2_smallestAlone, .code yX2_smallestAlone cX2_smallestAlone 1 (some .int)] ++ wsX10 ++ wsX00)
def wsX1_spread : List Cond := .code yX1_spread cX1_spread 5 (some .boolean) :: ([.fieldLink RX1 27 "FableIndex$Land" "kept" "[I", .fieldLink RX1 21 "FableIndex$Land" "told" "[I", .methodLink RX1 72 yX1_arriving, .instanceMethod yX1_arriving, .selects RX1 yX1_arriving yX1_arriving, .initialized RX1, .code yX1_arriving cX1_arriving 4 (some .int), .fieldLink RX1 9 "FableIndex$Land" "ways" "[I", .static yX2_has, .initialized RX2, .code yX2_has cX2_has 2 (some .boolean), .methodLink RX1 75 yX1_admitted, .instanceMethod yX1_admitted, .selects RX1 yX1_admitted yX1_admitted, .code yX1_admitted cX1_admitted 7 (some .int), .fieldLink RX1 24 "FableIndex$Land" "allowed" "[I", .fieldLink RX1 50 "FableIndex$Book" "count" "I", .fieldLink RX1 15 "FableIndex$Land" "bannedMorals" "[I", .fieldLink RX1 38 "FableIndex$Book" "moral" "[I", .fieldLink RX1 79 "FableIndex$Book" "variants" "[I", .static yX2_smallestAlone, .code yX2_smallestAlone cX2_smallestAlone 1 (some .int)] ++ wsX10 ++ wsX00)
def wsX1_live_r1 : List Cond := [Cond.fieldLink RX1 24 "FableIndex$Land" "allowed" "[I", Cond.methodLink RX1 61 yX1_welcome, Cond.instanceMethod yX1_welcome, Cond.selects RX1 yX1_welcome yX1_welcome, Cond.initialized RX1, Cond.code yX1_welcome cX1_welcome 5 (some .int), Cond.fieldLink RX1 50 "FableIndex$Book" "count" "I", Cond.methodLink RX1 53 yX1_bans, Cond.instanceMethod yX1_bans, Cond.selects RX1 yX1_bans yX1_bans, Cond.code yX1_bans cX1_bans 4 (some .boolean), Cond.fieldLink RX1 15 "FableIndex$Land" "bannedMorals" "[I", Cond.fieldLink RX1 38 "FableIndex$Book" "moral" "[I", Cond.fieldLink RX1 18 "FableIndex$Land" "bannedBeasts" "[I", Cond.fieldLink RX1 47 "FableIndex$Book" "beasts" "[I", Cond.static yX2_has, Cond.initialized RX2, Cond.code yX2_has cX2_has 2 (some .boolean), Cond.methodLink RX1 65 yX1_hush, Cond.instanceMethod yX1_hush, Cond.selects RX1 yX1_hush yX1_hush, Cond.code yX1_hush cX1_hush 2 none, Cond.fieldLink RX1 27 "FableIndex$Land" "kept" "[I", Cond.fieldLink RX1 21 "FableIndex$Land" "told" "[I"]
def wsX1_live_r2 : List Cond := [Cond.fieldLink RX1 30 "FableIndex$Land" "hushed" "I", Cond.static yX2_size, Cond.code yX2_size cX2_size 1 (some .int), Cond.methodLink RX2 253 yJ6_bitCount_0f7a4, Cond.static yJ6_bitCount_0f7a4, Cond.initialized RJ6, Cond.code yJ6_bitCount_0f7a4 cJ6_bitCount_0f7a4 1 (some .int), Cond.constant RJ6 265 (1431655765), Cond.constant RJ6 266 (858993459), Cond.constant RJ6 267 (252645135), Cond.methodLink RX1 68 yX1_spread, Cond.instanceMethod yX1_spread, Cond.selects RX1 yX1_spread yX1_spread, Cond.code yX1_spread cX1_spread 5 (some .boolean), Cond.methodLink RX1 72 yX1_arriving, Cond.instanceMethod yX1_arriving, Cond.selects RX1 yX1_arriving yX1_arriving, Cond.code yX1_arriving cX1_arriving 4 (some .int), Cond.fieldLink RX1 9 "FableIndex$Land" "ways" "[I", Cond.methodLink RX1 75 yX1_admitted, Cond.instanceMethod yX1_admitted, Cond.selects RX1 yX1_admitted yX1_admitted, Cond.code yX1_admitted cX1_admitted 7 (some .int), Cond.fieldLink RX1 79 "FableIndex$Book" "variants" "[I"]
def wsX1_live_r3 : List Cond := [Cond.static yX2_smallestAlone, Cond.code yX2_smallestAlone cX2_smallestAlone 1 (some .int)]
def wsX1_live : List Cond := .code yX1_live cX1_live 5 none :: ((wsX1_live_r1 ++ (wsX1_live_r2 ++ wsX1_live_r3)) ++ wsX10 ++ wsX00)
def wsX2_init_r1 : List Cond := [Cond.methodLink RX2 1 objectInit, Cond.instanceMethod objectInit, Cond.code objectInit ⟨#[0xb1]⟩ 1 none, Cond.classLink RX2 7 RX0, Cond.instantiable RX0 7, Cond.initialized RX0, Cond.fieldLink RX2 10 "FableIndex" "book" "LFableIndex$Book;", Cond.classLink RX2 16 RX1, Cond.instantiable RX1 7, Cond.initialized RX1, Cond.fieldLink RX2 19 "FableIndex" "land" "LFableIndex$Land;", Cond.fieldLink RX2 23 "FableIndex" "trial" "LFableIndex$Land;", Cond.fieldLink RX2 26 "FableIndex" "season" "I", Cond.methodLink RX2 9 yX0_init, Cond.instanceMethod yX0_init, Cond.code yX0_init cX0_init 1 none, Cond.methodLink RX0 3 objectInit, Cond.fieldLink RX0 9 "FableIndex$Book" "count" "I", Cond.arrayClass .int, Cond.fieldLink RX0 15 "FableIndex$Book" "moral" "[I", Cond.fieldLink RX0 19 "FableIndex$Book" "beasts" "[I", Cond.fieldLink RX0 22 "FableIndex$Book" "home" "[I", Cond.fieldLink RX0 25 "FableIndex$Book" "parent" "[I", Cond.fieldLink RX0 28 "FableIndex$Book" "variants" "[I"]
def wsX2_init_r2 : List Cond := [Cond.fieldLink RX0 31 "FableIndex$Book" "ancestors" "[I", Cond.methodLink RX2 18 yX1_init, Cond.instanceMethod yX1_init, Cond.code yX1_init cX1_init 1 none, Cond.methodLink RX1 3 objectInit, Cond.fieldLink RX1 9 "FableIndex$Land" "ways" "[I", Cond.fieldLink RX1 15 "FableIndex$Land" "bannedMorals" "[I", Cond.fieldLink RX1 18 "FableIndex$Land" "bannedBeasts" "[I", Cond.fieldLink RX1 21 "FableIndex$Land" "told" "[I", Cond.fieldLink RX1 24 "FableIndex$Land" "allowed" "[I", Cond.fieldLink RX1 27 "FableIndex$Land" "kept" "[I", Cond.fieldLink RX1 30 "FableIndex$Land" "hushed" "I"]
def wsX2_init : List Cond := .code yX2_init cX2_init 1 none :: ((wsX2_init_r1 ++ wsX2_init_r2) ++ wsX00 ++ wsX20 ++ wsX10)
def wsX2_needMoral : List Cond := .code yX2_needMoral cX2_needMoral 1 none :: ([.classLink RX2 238 "java/lang/IndexOutOfBoundsException", .initialized "java/lang/IndexOutOfBoundsException"] ++ (vx_atS RX2 242 "java/lang/IndexOutOfBoundsException" ["java/lang/RuntimeException", "java/lang/Exception"]).filter goodWord)
def wsX2_needBeast : List Cond := .code yX2_needBeast cX2_needBeast 1 none :: ([.classLink RX2 238 "java/lang/IndexOutOfBoundsException", .initialized "java/lang/IndexOutOfBoundsException"] ++ (vx_atS RX2 242 "java/lang/IndexOutOfBoundsException" ["java/lang/RuntimeException", "java/lang/Exception"]).filter goodWord)
def wsX2_needValley : List Cond := .code yX2_needValley cX2_needValley 1 none :: ([.classLink RX2 238 "java/lang/IndexOutOfBoundsException", .initialized "java/lang/IndexOutOfBoundsException"] ++ (vx_atS RX2 242 "java/lang/IndexOutOfBoundsException" ["java/lang/RuntimeException", "java/lang/Exception"]).filter goodWord)
def wsX2_needFreePage : List Cond := .code yX2_needFreePage cX2_needFreePage 1 none :: ([.classLink RX2 58 "java/lang/IllegalStateException", .initialized "java/lang/IllegalStateException", .fieldLink RX2 10 "FableIndex" "book" "LFableIndex$Book;", .fieldLink RX2 146 "FableIndex$Book" "count" "I"] ++ wsX20 ++ wsX00 ++ (vx_atS RX2 62 "java/lang/IllegalStateException" ["java/lang/RuntimeException", "java/lang/Exception"]).filter goodWord)
def wsX2_addFable_r1 : List Cond := [Cond.fieldLink RX2 10 "FableIndex" "book" "LFableIndex$Book;", Cond.methodLink RX2 30 yX2_needMoral, Cond.static yX2_needMoral, Cond.initialized RX2, Cond.code yX2_needMoral cX2_needMoral 1 none, Cond.classLink RX2 238 "java/lang/IndexOutOfBoundsException", Cond.initialized "java/lang/IndexOutOfBoundsException", Cond.methodLink RX2 34 yX2_needBeast, Cond.static yX2_needBeast, Cond.code yX2_needBeast cX2_needBeast 1 none, Cond.methodLink RX2 37 yX2_needValley, Cond.static yX2_needValley, Cond.code yX2_needValley cX2_needValley 1 none, Cond.methodLink RX2 40 yX2_needFreePage, Cond.instanceMethod yX2_needFreePage, Cond.selects RX2 yX2_needFreePage yX2_needFreePage, Cond.code yX2_needFreePage cX2_needFreePage 1 none, Cond.classLink RX2 58 "java/lang/IllegalStateException", Cond.initialized "java/lang/IllegalStateException", Cond.fieldLink RX2 146 "FableIndex$Book" "count" "I", Cond.methodLink RX2 43 yX0_write, Cond.instanceMethod yX0_write, Cond.selects RX0 yX0_write yX0_write, Cond.initialized RX0]
def wsX2_addFable_r2 : List Cond := [Cond.code yX0_write cX0_write 6 (some .int), Cond.fieldLink RX0 9 "FableIndex$Book" "count" "I", Cond.fieldLink RX0 15 "FableIndex$Book" "moral" "[I", Cond.fieldLink RX0 19 "FableIndex$Book" "beasts" "[I", Cond.fieldLink RX0 22 "FableIndex$Book" "home" "[I", Cond.fieldLink RX0 25 "FableIndex$Book" "parent" "[I", Cond.fieldLink RX0 28 "FableIndex$Book" "variants" "[I", Cond.fieldLink RX0 31 "FableIndex$Book" "ancestors" "[I"]
def wsX2_addFable : List Cond := .code yX2_addFable cX2_addFable 4 (some .int) :: ((wsX2_addFable_r1 ++ wsX2_addFable_r2) ++ wsX20 ++ wsX00 ++ (vx_atS RX2 242 "java/lang/IndexOutOfBoundsException" ["java/lang/RuntimeException", "java/lang/Exception"]).filter goodWord ++ (vx_atS RX2 62 "java/lang/IllegalStateException" ["java/lang/RuntimeException", "java/lang/Exception"]).filter goodWord)
def wsX2_needFable : List Cond := .code yX2_needFable cX2_needFable 2 none :: ([.classLink RX2 238 "java/lang/IndexOutOfBoundsException", .initialized "java/lang/IndexOutOfBoundsException", .fieldLink RX2 10 "FableIndex" "book" "LFableIndex$Book;", .fieldLink RX2 146 "FableIndex$Book" "count" "I"] ++ wsX20 ++ wsX00 ++ (vx_atS RX2 242 "java/lang/IndexOutOfBoundsException" ["java/lang/RuntimeException", "java/lang/Exception"]).filter goodWord)
def wsX2_addBeast_r1 : List Cond := [Cond.classLink RX2 58 "java/lang/IllegalStateException", Cond.initialized "java/lang/IllegalStateException", Cond.fieldLink RX2 10 "FableIndex" "book" "LFableIndex$Book;", Cond.fieldLink RX2 50 "FableIndex$Book" "beasts" "[I", Cond.fieldLink RX2 65 "FableIndex$Book" "variants" "[I", Cond.methodLink RX2 47 yX2_needFable, Cond.instanceMethod yX2_needFable, Cond.selects RX2 yX2_needFable yX2_needFable, Cond.initialized RX2, Cond.code yX2_needFable cX2_needFable 2 none, Cond.classLink RX2 238 "java/lang/IndexOutOfBoundsException", Cond.initialized "java/lang/IndexOutOfBoundsException", Cond.fieldLink RX2 146 "FableIndex$Book" "count" "I", Cond.methodLink RX2 34 yX2_needBeast, Cond.static yX2_needBeast, Cond.code yX2_needBeast cX2_needBeast 1 none, Cond.methodLink RX2 54 yX2_has, Cond.static yX2_has, Cond.code yX2_has cX2_has 2 (some .boolean), Cond.methodLink RX2 70 yX2_size, Cond.static yX2_size, Cond.code yX2_size cX2_size 1 (some .int), Cond.methodLink RX2 253 yJ6_bitCount_0f7a4, Cond.static yJ6_bitCount_0f7a4]
def wsX2_addBeast_r2 : List Cond := [Cond.initialized RJ6, Cond.code yJ6_bitCount_0f7a4 cJ6_bitCount_0f7a4 1 (some .int), Cond.constant RJ6 265 (1431655765), Cond.constant RJ6 266 (858993459), Cond.constant RJ6 267 (252645135)]
def wsX2_addBeast : List Cond := .code yX2_addBeast cX2_addBeast 3 (some .int) :: ((wsX2_addBeast_r1 ++ wsX2_addBeast_r2) ++ wsX20 ++ wsX00 ++ (vx_atS RX2 62 "java/lang/IllegalStateException" ["java/lang/RuntimeException", "java/lang/Exception"]).filter goodWord ++ (vx_atS RX2 242 "java/lang/IndexOutOfBoundsException" ["java/lang/RuntimeException", "java/lang/Exception"]).filter goodWord)
def wsX2_addVariant_r1 : List Cond := [Cond.classLink RX2 58 "java/lang/IllegalStateException", Cond.initialized "java/lang/IllegalStateException", Cond.fieldLink RX2 10 "FableIndex" "book" "LFableIndex$Book;", Cond.fieldLink RX2 50 "FableIndex$Book" "beasts" "[I", Cond.fieldLink RX2 78 "FableIndex$Book" "moral" "[I", Cond.methodLink RX2 47 yX2_needFable, Cond.instanceMethod yX2_needFable, Cond.selects RX2 yX2_needFable yX2_needFable, Cond.initialized RX2, Cond.code yX2_needFable cX2_needFable 2 none, Cond.classLink RX2 238 "java/lang/IndexOutOfBoundsException", Cond.initialized "java/lang/IndexOutOfBoundsException", Cond.fieldLink RX2 146 "FableIndex$Book" "count" "I", Cond.methodLink RX2 34 yX2_needBeast, Cond.static yX2_needBeast, Cond.code yX2_needBeast cX2_needBeast 1 none, Cond.methodLink RX2 37 yX2_needValley, Cond.static yX2_needValley, Cond.code yX2_needValley cX2_needValley 1 none, Cond.methodLink RX2 40 yX2_needFreePage, Cond.instanceMethod yX2_needFreePage, Cond.selects RX2 yX2_needFreePage yX2_needFreePage, Cond.code yX2_needFreePage cX2_needFreePage 1 none, Cond.methodLink RX2 54 yX2_has]
def wsX2_addVariant_r2 : List Cond := [Cond.static yX2_has, Cond.code yX2_has cX2_has 2 (some .boolean), Cond.methodLink RX2 81 yX2_turned, Cond.static yX2_turned, Cond.code yX2_turned cX2_turned 2 (some .int), Cond.methodLink RX2 43 yX0_write, Cond.instanceMethod yX0_write, Cond.selects RX0 yX0_write yX0_write, Cond.initialized RX0, Cond.code yX0_write cX0_write 6 (some .int), Cond.fieldLink RX0 9 "FableIndex$Book" "count" "I", Cond.fieldLink RX0 15 "FableIndex$Book" "moral" "[I", Cond.fieldLink RX0 19 "FableIndex$Book" "beasts" "[I", Cond.fieldLink RX0 22 "FableIndex$Book" "home" "[I", Cond.fieldLink RX0 25 "FableIndex$Book" "parent" "[I", Cond.fieldLink RX0 28 "FableIndex$Book" "variants" "[I", Cond.fieldLink RX0 31 "FableIndex$Book" "ancestors" "[I"]
def wsX2_addVariant : List Cond := .code yX2_addVariant cX2_addVariant 6 (some .int) :: ((wsX2_addVariant_r1 ++ wsX2_addVariant_r2) ++ wsX20 ++ wsX00 ++ (vx_atS RX2 62 "java/lang/IllegalStateException" ["java/lang/RuntimeException", "java/lang/Exception"]).filter goodWord ++ (vx_atS RX2 242 "java/lang/IndexOutOfBoundsException" ["java/lang/RuntimeException", "java/lang/Exception"]).filter goodWord)
def wsX2_turnPass : List Cond := .code yX2_turnPass cX2_turnPass 3 (some .boolean) :: ([.classLink RX2 85 "java/lang/IllegalArgumentException", .initialized "java/lang/IllegalArgumentException", .fieldLink RX2 19 "FableIndex" "land" "LFableIndex$Land;", .fieldLink RX2 94 "FableIndex$Land" "ways" "[I", .methodLink RX2 37 yX2_needValley, .static yX2_needValley, .initialized RX2, .code yX2_needValley cX2_needValley 1 none, .classLink RX2 238 "java/lang/IndexOutOfBoundsException", .initialized "java/lang/IndexOutOfBoundsException", .methodLink RX2 90 yX1_turnWay, .instanceMethod yX1_turnWay, .selects RX1 yX1_turnWay yX1_turnWay, .initialized RX1, .code yX1_turnWay cX1_turnWay 3 none, .fieldLink RX1 9 "FableIndex$Land" "ways" "[I", .static yX2_turned, .code yX2_turned cX2_turned 2 (some .int), .methodLink RX2 54 yX2_has, .static yX2_has, .code yX2_has cX2_has 2 (some .boolean)] ++ wsX20 ++ wsX10 ++ (vx_atS RX2 89 "java/lang/IllegalArgumentException" ["java/lang/RuntimeException", "java/lang/Exception"]).filter goodWord ++ (vx_atS RX2 242 "java/lang/IndexOutOfBoundsException" ["java/lang/RuntimeException", "java/lang/Exception"]).filter goodWord)
def wsX2_turnMoral : List Cond := .code yX2_turnMoral cX2_turnMoral 3 (some .boolean) :: ([.fieldLink RX2 19 "FableIndex" "land" "LFableIndex$Land;", .fieldLink RX2 97 "FableIndex$Land" "bannedMorals" "[I", .methodLink RX2 37 yX2_needValley, .static yX2_needValley, .initialized RX2, .code yX2_needValley cX2_needValley 1 none, .classLink RX2 238 "java/lang/IndexOutOfBoundsException", .initialized "java/lang/IndexOutOfBoundsException", .methodLink RX2 30 yX2_needMoral, .static yX2_needMoral, .code yX2_needMoral cX2_needMoral 1 none, .methodLink RX2 81 yX2_turned, .static yX2_turned, .code yX2_turned cX2_turned 2 (some .int), .methodLink RX2 54 yX2_has, .static yX2_has, .code yX2_has cX2_has 2 (some .boolean)] ++ wsX20 ++ wsX10 ++ (vx_atS RX2 242 "java/lang/IndexOutOfBoundsException" ["java/lang/RuntimeException", "java/lang/Exception"]).filter goodWord)
def wsX2_turnBeast : List Cond := .code yX2_turnBeast cX2_turnBeast 3 (some .boolean) :: ([.fieldLink RX2 19 "FableIndex" "land" "LFableIndex$Land;", .fieldLink RX2 100 "FableIndex$Land" "bannedBeasts" "[I", .methodLink RX2 37 yX2_needValley, .static yX2_needValley, .initialized RX2, .code yX2_needValley cX2_needValley 1 none, .classLink RX2 238 "java/lang/IndexOutOfBoundsException", .initialized "java/lang/IndexOutOfBoundsException", .methodLink RX2 34 yX2_needBeast, .static yX2_needBeast, .code yX2_needBeast cX2_needBeast 1 none, .methodLink RX2 81 yX2_turned, .static yX2_turned, .code yX2_turned cX2_turned 2 (some .int), .methodLink RX2 54 yX2_has, .static yX2_has, .code yX2_has cX2_has 2 (some .boolean)] ++ wsX20 ++ wsX10 ++ (vx_atS RX2 242 "java/lang/IndexOutOfBoundsException" ["java/lang/RuntimeException", "java/lang/Exception"]).filter goodWord)
def wsX2_tell_r1 : List Cond := [Cond.classLink RX2 58 "java/lang/IllegalStateException", Cond.initialized "java/lang/IllegalStateException", Cond.fieldLink RX2 19 "FableIndex" "land" "LFableIndex$Land;", Cond.fieldLink RX2 103 "FableIndex$Land" "told" "[I", Cond.fieldLink RX2 10 "FableIndex" "book" "LFableIndex$Book;", Cond.methodLink RX2 47 yX2_needFable, Cond.instanceMethod yX2_needFable, Cond.selects RX2 yX2_needFable yX2_needFable, Cond.initialized RX2, Cond.code yX2_needFable cX2_needFable 2 none, Cond.classLink RX2 238 "java/lang/IndexOutOfBoundsException", Cond.initialized "java/lang/IndexOutOfBoundsException", Cond.fieldLink RX2 146 "FableIndex$Book" "count" "I", Cond.methodLink RX2 37 yX2_needValley, Cond.static yX2_needValley, Cond.code yX2_needValley cX2_needValley 1 none, Cond.methodLink RX2 54 yX2_has, Cond.static yX2_has, Cond.code yX2_has cX2_has 2 (some .boolean), Cond.methodLink RX2 108 yX1_bans, Cond.instanceMethod yX1_bans, Cond.selects RX1 yX1_bans yX1_bans, Cond.initialized RX1, Cond.code yX1_bans cX1_bans 4 (some .boolean)]
def wsX2_tell_r2 : List Cond := [Cond.fieldLink RX1 15 "FableIndex$Land" "bannedMorals" "[I", Cond.fieldLink RX1 38 "FableIndex$Book" "moral" "[I", Cond.fieldLink RX1 18 "FableIndex$Land" "bannedBeasts" "[I", Cond.fieldLink RX1 47 "FableIndex$Book" "beasts" "[I", Cond.methodLink RX2 114 yX1_count, Cond.instanceMethod yX1_count, Cond.selects RX1 yX1_count yX1_count, Cond.code yX1_count cX1_count 4 (some .int), Cond.fieldLink RX1 21 "FableIndex$Land" "told" "[I", Cond.static yX2_size, Cond.code yX2_size cX2_size 1 (some .int), Cond.methodLink RX2 253 yJ6_bitCount_0f7a4, Cond.static yJ6_bitCount_0f7a4, Cond.initialized RJ6, Cond.code yJ6_bitCount_0f7a4 cJ6_bitCount_0f7a4 1 (some .int), Cond.constant RJ6 265 (1431655765), Cond.constant RJ6 266 (858993459), Cond.constant RJ6 267 (252645135)]
def wsX2_tell : List Cond := .code yX2_tell cX2_tell 3 (some .int) :: ((wsX2_tell_r1 ++ wsX2_tell_r2) ++ wsX20 ++ wsX10 ++ wsX00 ++ (vx_atS RX2 62 "java/lang/IllegalStateException" ["java/lang/RuntimeException", "java/lang/Exception"]).filter goodWord ++ (vx_atS RX2 242 "java/lang/IndexOutOfBoundsException" ["java/lang/RuntimeException", "java/lang/Exception"]).filter goodWord)
def wsX2_forget_r1 : List Cond := [Cond.classLink RX2 58 "java/lang/IllegalStateException", Cond.initialized "java/lang/IllegalStateException", Cond.fieldLink RX2 19 "FableIndex" "land" "LFableIndex$Land;", Cond.fieldLink RX2 103 "FableIndex$Land" "told" "[I", Cond.methodLink RX2 47 yX2_needFable, Cond.instanceMethod yX2_needFable, Cond.selects RX2 yX2_needFable yX2_needFable, Cond.initialized RX2, Cond.code yX2_needFable cX2_needFable 2 none, Cond.classLink RX2 238 "java/lang/IndexOutOfBoundsException", Cond.initialized "java/lang/IndexOutOfBoundsException", Cond.fieldLink RX2 10 "FableIndex" "book" "LFableIndex$Book;", Cond.fieldLink RX2 146 "FableIndex$Book" "count" "I", Cond.methodLink RX2 37 yX2_needValley, Cond.static yX2_needValley, Cond.code yX2_needValley cX2_needValley 1 none, Cond.methodLink RX2 54 yX2_has, Cond.static yX2_has, Cond.code yX2_has cX2_has 2 (some .boolean), Cond.methodLink RX2 81 yX2_turned, Cond.static yX2_turned, Cond.code yX2_turned cX2_turned 2 (some .int), Cond.methodLink RX2 114 yX1_count, Cond.instanceMethod yX1_count]
def wsX2_forget_r2 : List Cond := [Cond.selects RX1 yX1_count yX1_count, Cond.initialized RX1, Cond.code yX1_count cX1_count 4 (some .int), Cond.fieldLink RX1 21 "FableIndex$Land" "told" "[I", Cond.static yX2_size, Cond.code yX2_size cX2_size 1 (some .int), Cond.methodLink RX2 253 yJ6_bitCount_0f7a4, Cond.static yJ6_bitCount_0f7a4, Cond.initialized RJ6, Cond.code yJ6_bitCount_0f7a4 cJ6_bitCount_0f7a4 1 (some .int), Cond.constant RJ6 265 (1431655765), Cond.constant RJ6 266 (858993459), Cond.constant RJ6 267 (252645135)]
def wsX2_forget : List Cond := .code yX2_forget cX2_forget 3 (some .int) :: ((wsX2_forget_r1 ++ wsX2_forget_r2) ++ wsX20 ++ wsX10 ++ wsX00 ++ (vx_atS RX2 62 "java/lang/IllegalStateException" ["java/lang/RuntimeException", "java/lang/Exception"]).filter goodWord ++ (vx_atS RX2 242 "java/lang/IndexOutOfBoundsException" ["java/lang/RuntimeException", "java/lang/Exception"]).filter goodWord)
def wsX2_needSeasons : List Cond := .code yX2_needSeasons cX2_needSeasons 2 none :: ([.classLink RX2 85 "java/lang/IllegalArgumentException", .initialized "java/lang/IllegalArgumentException"] ++ (vx_atS RX2 89 "java/lang/IllegalArgumentException" ["java/lang/RuntimeException", "java/lang/Exception"]).filter goodWord)
def wsX2_passSeasons_r1 : List Cond := [Cond.fieldLink RX2 19 "FableIndex" "land" "LFableIndex$Land;", Cond.fieldLink RX2 10 "FableIndex" "book" "LFableIndex$Book;", Cond.fieldLink RX2 26 "FableIndex" "season" "I", Cond.methodLink RX2 119 yX2_needSeasons, Cond.static yX2_needSeasons, Cond.initialized RX2, Cond.code yX2_needSeasons cX2_needSeasons 2 none, Cond.classLink RX2 85 "java/lang/IllegalArgumentException", Cond.initialized "java/lang/IllegalArgumentException", Cond.methodLink RX2 122 yX1_live, Cond.instanceMethod yX1_live, Cond.selects RX1 yX1_live yX1_live, Cond.initialized RX1, Cond.code yX1_live cX1_live 5 none, Cond.fieldLink RX1 24 "FableIndex$Land" "allowed" "[I", Cond.methodLink RX1 61 yX1_welcome, Cond.instanceMethod yX1_welcome, Cond.selects RX1 yX1_welcome yX1_welcome, Cond.code yX1_welcome cX1_welcome 5 (some .int), Cond.fieldLink RX1 50 "FableIndex$Book" "count" "I", Cond.methodLink RX1 53 yX1_bans, Cond.instanceMethod yX1_bans, Cond.selects RX1 yX1_bans yX1_bans, Cond.code yX1_bans cX1_bans 4 (some .boolean)]
def wsX2_passSeasons_r2 : List Cond := [Cond.fieldLink RX1 15 "FableIndex$Land" "bannedMorals" "[I", Cond.fieldLink RX1 38 "FableIndex$Book" "moral" "[I", Cond.fieldLink RX1 18 "FableIndex$Land" "bannedBeasts" "[I", Cond.fieldLink RX1 47 "FableIndex$Book" "beasts" "[I", Cond.static yX2_has, Cond.code yX2_has cX2_has 2 (some .boolean), Cond.methodLink RX1 65 yX1_hush, Cond.instanceMethod yX1_hush, Cond.selects RX1 yX1_hush yX1_hush, Cond.code yX1_hush cX1_hush 2 none, Cond.fieldLink RX1 27 "FableIndex$Land" "kept" "[I", Cond.fieldLink RX1 21 "FableIndex$Land" "told" "[I", Cond.fieldLink RX1 30 "FableIndex$Land" "hushed" "I", Cond.static yX2_size, Cond.code yX2_size cX2_size 1 (some .int), Cond.methodLink RX2 253 yJ6_bitCount_0f7a4, Cond.static yJ6_bitCount_0f7a4, Cond.initialized RJ6, Cond.code yJ6_bitCount_0f7a4 cJ6_bitCount_0f7a4 1 (some .int), Cond.constant RJ6 265 (1431655765), Cond.constant RJ6 266 (858993459), Cond.constant RJ6 267 (252645135), Cond.methodLink RX1 68 yX1_spread, Cond.instanceMethod yX1_spread]
def wsX2_passSeasons_r3 : List Cond := [Cond.selects RX1 yX1_spread yX1_spread, Cond.code yX1_spread cX1_spread 5 (some .boolean), Cond.methodLink RX1 72 yX1_arriving, Cond.instanceMethod yX1_arriving, Cond.selects RX1 yX1_arriving yX1_arriving, Cond.code yX1_arriving cX1_arriving 4 (some .int), Cond.fieldLink RX1 9 "FableIndex$Land" "ways" "[I", Cond.methodLink RX1 75 yX1_admitted, Cond.instanceMethod yX1_admitted, Cond.selects RX1 yX1_admitted yX1_admitted, Cond.code yX1_admitted cX1_admitted 7 (some .int), Cond.fieldLink RX1 79 "FableIndex$Book" "variants" "[I", Cond.static yX2_smallestAlone, Cond.code yX2_smallestAlone cX2_smallestAlone 1 (some .int), Cond.methodLink RX2 126 yX0_all, Cond.instanceMethod yX0_all, Cond.selects RX0 yX0_all yX0_all, Cond.initialized RX0, Cond.code yX0_all cX0_all 1 (some .int), Cond.fieldLink RX0 9 "FableIndex$Book" "count" "I", Cond.methodLink RX2 114 yX1_count, Cond.instanceMethod yX1_count, Cond.selects RX1 yX1_count yX1_count, Cond.code yX1_count cX1_count 4 (some .int)]
def wsX2_passSeasons : List Cond := .code yX2_passSeasons cX2_passSeasons 2 (some .int) :: ((wsX2_passSeasons_r1 ++ (wsX2_passSeasons_r2 ++ wsX2_passSeasons_r3)) ++ wsX20 ++ wsX10 ++ wsX00 ++ (vx_atS RX2 89 "java/lang/IllegalArgumentException" ["java/lang/RuntimeException", "java/lang/Exception"]).filter goodWord)
def wsX2_moralOf : List Cond := .code yX2_moralOf cX2_moralOf 2 (some .int) :: ([.fieldLink RX2 10 "FableIndex" "book" "LFableIndex$Book;", .fieldLink RX2 78 "FableIndex$Book" "moral" "[I", .methodLink RX2 47 yX2_needFable, .instanceMethod yX2_needFable, .selects RX2 yX2_needFable yX2_needFable, .initialized RX2, .code yX2_needFable cX2_needFable 2 none, .classLink RX2 238 "java/lang/IndexOutOfBoundsException", .initialized "java/lang/IndexOutOfBoundsException", .fieldLink RX2 146 "FableIndex$Book" "count" "I"] ++ wsX20 ++ wsX00 ++ (vx_atS RX2 242 "java/lang/IndexOutOfBoundsException" ["java/lang/RuntimeException", "java/lang/Exception"]).filter goodWord)
def wsX2_beastsOf : List Cond := .code yX2_beastsOf cX2_beastsOf 2 (some .int) :: ([.fieldLink RX2 10 "FableIndex" "book" "LFableIndex$Book;", .fieldLink RX2 50 "FableIndex$Book" "beasts" "[I", .methodLink RX2 47 yX2_needFable, .instanceMethod yX2_needFable, .selects RX2 yX2_needFable yX2_needFable, .initialized RX2, .code yX2_needFable cX2_needFable 2 none, .classLink RX2 238 "java/lang/IndexOutOfBoundsException", .initialized "java/lang/IndexOutOfBoundsException", .fieldLink RX2 146 "FableIndex$Book" "count" "I", .methodLink RX2 70 yX2_size, .static yX2_size, .code yX2_size cX2_size 1 (some .int), .methodLink RX2 253 yJ6_bitCount_0f7a4, .static yJ6_bitCount_0f7a4, .initialized RJ6, .code yJ6_bitCount_0f7a4 cJ6_bitCount_0f7a4 1 (some .int), .constant RJ6 265 (1431655765), .constant RJ6 266 (858993459), .constant RJ6 267 (252645135)] ++ wsX20 ++ wsX00 ++ (vx_atS RX2 242 "java/lang/IndexOutOfBoundsException" ["java/lang/RuntimeException", "java/lang/Exception"]).filter goodWord)
def wsX2_hasBeast : List Cond := .code yX2_hasBeast cX2_hasBeast 3 (some .boolean) :: ([.fieldLink RX2 10 "FableIndex" "book" "LFableIndex$Book;", .fieldLink RX2 50 "FableIndex$Book" "beasts" "[I", .methodLink RX2 47 yX2_needFable, .instanceMethod yX2_needFable, .selects RX2 yX2_needFable yX2_needFable, .initialized RX2, .code yX2_needFable cX2_needFable 2 none, .classLink RX2 238 "java/lang/IndexOutOfBoundsException", .initialized "java/lang/IndexOutOfBoundsException", .fieldLink RX2 146 "FableIndex$Book" "count" "I", .methodLink RX2 34 yX2_needBeast, .static yX2_needBeast, .code yX2_needBeast cX2_needBeast 1 none, .methodLink RX2 54 yX2_has, .static yX2_has, .code yX2_has cX2_has 2 (some .boolean)] ++ wsX20 ++ wsX00 ++ (vx_atS RX2 242 "java/lang/IndexOutOfBoundsException" ["java/lang/RuntimeException", "java/lang/Exception"]).filter goodWord)
def wsX2_homeOf : List Cond := .code yX2_homeOf cX2_homeOf 2 (some .int) :: ([.fieldLink RX2 10 "FableIndex" "book" "LFableIndex$Book;", .fieldLink RX2 130 "FableIndex$Book" "home" "[I", .methodLink RX2 47 yX2_needFable, .instanceMethod yX2_needFable, .selects RX2 yX2_needFable yX2_needFable, .initialized RX2, .code yX2_needFable cX2_needFable 2 none, .classLink RX2 238 "java/lang/IndexOutOfBoundsException", .initialized "java/lang/IndexOutOfBoundsException", .fieldLink RX2 146 "FableIndex$Book" "count" "I"] ++ wsX20 ++ wsX00 ++ (vx_atS RX2 242 "java/lang/IndexOutOfBoundsException" ["java/lang/RuntimeException", "java/lang/Exception"]).filter goodWord)
def wsX2_parentOf : List Cond := .code yX2_parentOf cX2_parentOf 2 (some .int) :: ([.fieldLink RX2 10 "FableIndex" "book" "LFableIndex$Book;", .fieldLink RX2 133 "FableIndex$Book" "parent" "[I", .methodLink RX2 47 yX2_needFable, .instanceMethod yX2_needFable, .selects RX2 yX2_needFable yX2_needFable, .initialized RX2, .code yX2_needFable cX2_needFable 2 none, .classLink RX2 238 "java/lang/IndexOutOfBoundsException", .initialized "java/lang/IndexOutOfBoundsException", .fieldLink RX2 146 "FableIndex$Book" "count" "I"] ++ wsX20 ++ wsX00 ++ (vx_atS RX2 242 "java/lang/IndexOutOfBoundsException" ["java/lang/RuntimeException", "java/lang/Exception"]).filter goodWord)
def wsX2_variantsOf : List Cond := .code yX2_variantsOf cX2_variantsOf 2 (some .int) :: ([.fieldLink RX2 10 "FableIndex" "book" "LFableIndex$Book;", .fieldLink RX2 65 "FableIndex$Book" "variants" "[I", .methodLink RX2 47 yX2_needFable, .instanceMethod yX2_needFable, .selects RX2 yX2_needFable yX2_needFable, .initialized RX2, .code yX2_needFable cX2_needFable 2 none, .classLink RX2 238 "java/lang/IndexOutOfBoundsException", .initialized "java/lang/IndexOutOfBoundsException", .fieldLink RX2 146 "FableIndex$Book" "count" "I", .methodLink RX2 70 yX2_size, .static yX2_size, .code yX2_size cX2_size 1 (some .int), .methodLink RX2 253 yJ6_bitCount_0f7a4, .static yJ6_bitCount_0f7a4, .initialized RJ6, .code yJ6_bitCount_0f7a4 cJ6_bitCount_0f7a4 1 (some .int), .constant RJ6 265 (1431655765), .constant RJ6 266 (858993459), .constant RJ6 267 (252645135)] ++ wsX20 ++ wsX00 ++ (vx_atS RX2 242 "java/lang/IndexOutOfBoundsException" ["java/lang/RuntimeException", "java/lang/Exception"]).filter goodWord)
def wsX2_valleysOf_r1 : List Cond := [Cond.fieldLink RX2 19 "FableIndex" "land" "LFableIndex$Land;", Cond.methodLink RX2 47 yX2_needFable, Cond.instanceMethod yX2_needFable, Cond.selects RX2 yX2_needFable yX2_needFable, Cond.initialized RX2, Cond.code yX2_needFable cX2_needFable 2 none, Cond.classLink RX2 238 "java/lang/IndexOutOfBoundsException", Cond.initialized "java/lang/IndexOutOfBoundsException", Cond.fieldLink RX2 10 "FableIndex" "book" "LFableIndex$Book;", Cond.fieldLink RX2 146 "FableIndex$Book" "count" "I", Cond.methodLink RX2 114 yX1_count, Cond.instanceMethod yX1_count, Cond.selects RX1 yX1_count yX1_count, Cond.initialized RX1, Cond.code yX1_count cX1_count 4 (some .int), Cond.fieldLink RX1 21 "FableIndex$Land" "told" "[I", Cond.static yX2_size, Cond.code yX2_size cX2_size 1 (some .int), Cond.methodLink RX2 253 yJ6_bitCount_0f7a4, Cond.static yJ6_bitCount_0f7a4, Cond.initialized RJ6, Cond.code yJ6_bitCount_0f7a4 cJ6_bitCount_0f7a4 1 (some .int), Cond.constant RJ6 265 (1431655765), Cond.constant RJ6 266 (858993459)]
def wsX2_valleysOf_r2 : List Cond := [Cond.constant RJ6 267 (252645135)]
def wsX2_valleysOf : List Cond := .code yX2_valleysOf cX2_valleysOf 2 (some .int) :: ((wsX2_valleysOf_r1 ++ wsX2_valleysOf_r2) ++ wsX20 ++ wsX00 ++ wsX10 ++ (vx_atS RX2 242 "java/lang/IndexOutOfBoundsException" ["java/lang/RuntimeException", "java/lang/Exception"]).filter goodWord)
def wsX2_kinship : List Cond := .code yX2_kinship cX2_kinship 3 (some .int) :: ([.fieldLink RX2 10 "FableIndex" "book" "LFableIndex$Book;", .fieldLink RX2 136 "FableIndex$Book" "ancestors" "[I", .methodLink RX2 47 yX2_needFable, .instanceMethod yX2_needFable, .selects RX2 yX2_needFable yX2_needFable, .initialized RX2, .code yX2_needFable cX2_needFable 2 none, .classLink RX2 238 "java/lang/IndexOutOfBoundsException", .initialized "java/lang/IndexOutOfBoundsException", .fieldLink RX2 146 "FableIndex$Book" "count" "I", .methodLink RX2 70 yX2_size, .static yX2_size, .code yX2_size cX2_size 1 (some .int), .methodLink RX2 253 yJ6_bitCount_0f7a4, .static yJ6_bitCount_0f7a4, .initialized RJ6, .code yJ6_bitCount_0f7a4 cJ6_bitCount_0f7a4 1 (some .int), .constant RJ6 265 (1431655765), .constant RJ6 266 (858993459), .constant RJ6 267 (252645135)] ++ wsX20 ++ wsX00 ++ (vx_atS RX2 242 "java/lang/IndexOutOfBoundsException" ["java/lang/RuntimeException", "java/lang/Exception"]).filter goodWord)
def wsX2_sharedBeasts : List Cond := .code yX2_sharedBeasts cX2_sharedBeasts 3 (some .int) :: ([.fieldLink RX2 10 "FableIndex" "book" "LFableIndex$Book;", .fieldLink RX2 50 "FableIndex$Book" "beasts" "[I", .methodLink RX2 47 yX2_needFable, .instanceMethod yX2_needFable, .selects RX2 yX2_needFable yX2_needFable, .initialized RX2, .code yX2_needFable cX2_needFable 2 none, .classLink RX2 238 "java/lang/IndexOutOfBoundsException", .initialized "java/lang/IndexOutOfBoundsException", .fieldLink RX2 146 "FableIndex$Book" "count" "I", .methodLink RX2 70 yX2_size, .static yX2_size, .code yX2_size cX2_size 1 (some .int), .methodLink RX2 253 yJ6_bitCount_0f7a4, .static yJ6_bitCount_0f7a4, .initialized RJ6, .code yJ6_bitCount_0f7a4 cJ6_bitCount_0f7a4 1 (some .int), .constant RJ6 265 (1431655765), .constant RJ6 266 (858993459), .constant RJ6 267 (252645135)] ++ wsX20 ++ wsX00 ++ (vx_atS RX2 242 "java/lang/IndexOutOfBoundsException" ["java/lang/RuntimeException", "java/lang/Exception"]).filter goodWord)
def wsX2_isOpen : List Cond := .code yX2_isOpen cX2_isOpen 3 (some .boolean) :: ([.fieldLink RX2 19 "FableIndex" "land" "LFableIndex$Land;", .fieldLink RX2 94 "FableIndex$Land" "ways" "[I", .methodLink RX2 37 yX2_needValley, .static yX2_needValley, .initialized RX2, .code yX2_needValley cX2_needValley 1 none, .classLink RX2 238 "java/lang/IndexOutOfBoundsException", .initialized "java/lang/IndexOutOfBoundsException", .methodLink RX2 54 yX2_has, .static yX2_has, .code yX2_has cX2_has 2 (some .boolean)] ++ wsX20 ++ wsX10 ++ (vx_atS RX2 242 "java/lang/IndexOutOfBoundsException" ["java/lang/RuntimeException", "java/lang/Exception"]).filter goodWord)
def wsX2_isBanned : List Cond := .code yX2_isBanned cX2_isBanned 3 (some .boolean) :: ([.fieldLink RX2 19 "FableIndex" "land" "LFableIndex$Land;", .fieldLink RX2 10 "FableIndex" "book" "LFableIndex$Book;", .methodLink RX2 47 yX2_needFable, .instanceMethod yX2_needFable, .selects RX2 yX2_needFable yX2_needFable, .initialized RX2, .code yX2_needFable cX2_needFable 2 none, .classLink RX2 238 "java/lang/IndexOutOfBoundsException", .initialized "java/lang/IndexOutOfBoundsException", .fieldLink RX2 146 "FableIndex$Book" "count" "I", .methodLink RX2 37 yX2_needValley, .static yX2_needValley, .code yX2_needValley cX2_needValley 1 none, .methodLink RX2 108 yX1_bans, .instanceMethod yX1_bans, .selects RX1 yX1_bans yX1_bans, .initialized RX1, .code yX1_bans cX1_bans 4 (some .boolean), .fieldLink RX1 15 "FableIndex$Land" "bannedMorals" "[I", .fieldLink RX1 38 "FableIndex$Book" "moral" "[I", .fieldLink RX1 18 "FableIndex$Land" "bannedBeasts" "[I", .fieldLink RX1 47 "FableIndex$Book" "beasts" "[I", .static yX2_has, .code yX2_has cX2_has 2 (some .boolean)] ++ wsX20 ++ wsX00 ++ wsX10 ++ (vx_atS RX2 242 "java/lang/IndexOutOfBoundsException" ["java/lang/RuntimeException", "java/lang/Exception"]).filter goodWord)
def wsX2_isTold : List Cond := .code yX2_isTold cX2_isTold 3 (some .boolean) :: ([.fieldLink RX2 19 "FableIndex" "land" "LFableIndex$Land;", .fieldLink RX2 103 "FableIndex$Land" "told" "[I", .methodLink RX2 47 yX2_needFable, .instanceMethod yX2_needFable, .selects RX2 yX2_needFable yX2_needFable, .initialized RX2, .code yX2_needFable cX2_needFable 2 none, .classLink RX2 238 "java/lang/IndexOutOfBoundsException", .initialized "java/lang/IndexOutOfBoundsException", .fieldLink RX2 10 "FableIndex" "book" "LFableIndex$Book;", .fieldLink RX2 146 "FableIndex$Book" "count" "I", .methodLink RX2 37 yX2_needValley, .static yX2_needValley, .code yX2_needValley cX2_needValley 1 none, .methodLink RX2 54 yX2_has, .static yX2_has, .code yX2_has cX2_has 2 (some .boolean)] ++ wsX20 ++ wsX10 ++ wsX00 ++ (vx_atS RX2 242 "java/lang/IndexOutOfBoundsException" ["java/lang/RuntimeException", "java/lang/Exception"]).filter goodWord)
def wsX2_toldIn : List Cond := .code yX2_toldIn cX2_toldIn 2 (some .int) :: ([.fieldLink RX2 19 "FableIndex" "land" "LFableIndex$Land;", .fieldLink RX2 103 "FableIndex$Land" "told" "[I", .methodLink RX2 37 yX2_needValley, .static yX2_needValley, .initialized RX2, .code yX2_needValley cX2_needValley 1 none, .classLink RX2 238 "java/lang/IndexOutOfBoundsException", .initialized "java/lang/IndexOutOfBoundsException", .methodLink RX2 70 yX2_size, .static yX2_size, .code yX2_size cX2_size 1 (some .int), .methodLink RX2 253 yJ6_bitCount_0f7a4, .static yJ6_bitCount_0f7a4, .initialized RJ6, .code yJ6_bitCount_0f7a4 cJ6_bitCount_0f7a4 1 (some .int), .constant RJ6 265 (1431655765), .constant RJ6 266 (858993459), .constant RJ6 267 (252645135)] ++ wsX20 ++ wsX10 ++ (vx_atS RX2 242 "java/lang/IndexOutOfBoundsException" ["java/lang/RuntimeException", "java/lang/Exception"]).filter goodWord)
def wsX2_allowedIn_r1 : List Cond := [Cond.fieldLink RX2 19 "FableIndex" "land" "LFableIndex$Land;", Cond.fieldLink RX2 10 "FableIndex" "book" "LFableIndex$Book;", Cond.methodLink RX2 37 yX2_needValley, Cond.static yX2_needValley, Cond.initialized RX2, Cond.code yX2_needValley cX2_needValley 1 none, Cond.classLink RX2 238 "java/lang/IndexOutOfBoundsException", Cond.initialized "java/lang/IndexOutOfBoundsException", Cond.methodLink RX2 142 yX1_welcome, Cond.instanceMethod yX1_welcome, Cond.selects RX1 yX1_welcome yX1_welcome, Cond.initialized RX1, Cond.code yX1_welcome cX1_welcome 5 (some .int), Cond.fieldLink RX1 50 "FableIndex$Book" "count" "I", Cond.methodLink RX1 53 yX1_bans, Cond.instanceMethod yX1_bans, Cond.selects RX1 yX1_bans yX1_bans, Cond.code yX1_bans cX1_bans 4 (some .boolean), Cond.fieldLink RX1 15 "FableIndex$Land" "bannedMorals" "[I", Cond.fieldLink RX1 38 "FableIndex$Book" "moral" "[I", Cond.fieldLink RX1 18 "FableIndex$Land" "bannedBeasts" "[I", Cond.fieldLink RX1 47 "FableIndex$Book" "beasts" "[I", Cond.static yX2_has, Cond.code yX2_has cX2_has 2 (some .boolean)]
def wsX2_allowedIn_r2 : List Cond := [Cond.methodLink RX2 70 yX2_size, Cond.static yX2_size, Cond.code yX2_size cX2_size 1 (some .int), Cond.methodLink RX2 253 yJ6_bitCount_0f7a4, Cond.static yJ6_bitCount_0f7a4, Cond.initialized RJ6, Cond.code yJ6_bitCount_0f7a4 cJ6_bitCount_0f7a4 1 (some .int), Cond.constant RJ6 265 (1431655765), Cond.constant RJ6 266 (858993459), Cond.constant RJ6 267 (252645135)]
def wsX2_allowedIn : List Cond := .code yX2_allowedIn cX2_allowedIn 2 (some .int) :: ((wsX2_allowedIn_r1 ++ wsX2_allowedIn_r2) ++ wsX20 ++ wsX00 ++ wsX10 ++ (vx_atS RX2 242 "java/lang/IndexOutOfBoundsException" ["java/lang/RuntimeException", "java/lang/Exception"]).filter goodWord)
def wsX2_bansOf : List Cond := .code yX2_bansOf cX2_bansOf 2 (some .int) :: ([.fieldLink RX2 19 "FableIndex" "land" "LFableIndex$Land;", .fieldLink RX2 97 "FableIndex$Land" "bannedMorals" "[I", .fieldLink RX2 100 "FableIndex$Land" "bannedBeasts" "[I", .methodLink RX2 37 yX2_needValley, .static yX2_needValley, .initialized RX2, .code yX2_needValley cX2_needValley 1 none, .classLink RX2 238 "java/lang/IndexOutOfBoundsException", .initialized "java/lang/IndexOutOfBoundsException", .methodLink RX2 70 yX2_size, .static yX2_size, .code yX2_size cX2_size 1 (some .int), .methodLink RX2 253 yJ6_bitCount_0f7a4, .static yJ6_bitCount_0f7a4, .initialized RJ6, .code yJ6_bitCount_0f7a4 cJ6_bitCount_0f7a4 1 (some .int), .constant RJ6 265 (1431655765), .constant RJ6 266 (858993459), .constant RJ6 267 (252645135)] ++ wsX20 ++ wsX10 ++ (vx_atS RX2 242 "java/lang/IndexOutOfBoundsException" ["java/lang/RuntimeException", "java/lang/Exception"]).filter goodWord)
def wsX2_fables : List Cond := .code yX2_fables cX2_fables 1 (some .int) :: ([.fieldLink RX2 10 "FableIndex" "book" "LFableIndex$Book;", .fieldLink RX2 146 "FableIndex$Book" "count" "I"] ++ wsX20 ++ wsX00)
def wsX2_season : List Cond := .code yX2_season cX2_season 1 (some .int) :: ([.fieldLink RX2 26 "FableIndex" "season" "I"] ++ wsX20)
def wsX2_tellings : List Cond := .code yX2_tellings cX2_tellings 1 (some .int) :: ([.fieldLink RX2 19 "FableIndex" "land" "LFableIndex$Land;", .fieldLink RX2 10 "FableIndex" "book" "LFableIndex$Book;", .methodLink RX2 126 yX0_all, .instanceMethod yX0_all, .selects RX0 yX0_all yX0_all, .initialized RX0, .code yX0_all cX0_all 1 (some .int), .fieldLink RX0 9 "FableIndex$Book" "count" "I", .methodLink RX2 114 yX1_count, .instanceMethod yX1_count, .selects RX1 yX1_count yX1_count, .initialized RX1, .code yX1_count cX1_count 4 (some .int), .fieldLink RX1 21 "FableIndex$Land" "told" "[I", .static yX2_size, .initialized RX2, .code yX2_size cX2_size 1 (some .int), .methodLink RX2 253 yJ6_bitCount_0f7a4, .static yJ6_bitCount_0f7a4, .initialized RJ6, .code yJ6_bitCount_0f7a4 cJ6_bitCount_0f7a4 1 (some .int), .constant RJ6 265 (1431655765), .constant RJ6 266 (858993459), .constant RJ6 267 (252645135)] ++ wsX20 ++ wsX00 ++ wsX10)
def wsX2_silenced : List Cond := .code yX2_silenced cX2_silenced 1 (some .int) :: ([.fieldLink RX2 19 "FableIndex" "land" "LFableIndex$Land;", .fieldLink RX2 148 "FableIndex$Land" "hushed" "I"] ++ wsX20 ++ wsX10)
def wsX2_fablesWithMoral : List Cond := .code yX2_fablesWithMoral cX2_fablesWithMoral 2 (some .int) :: ([.fieldLink RX2 10 "FableIndex" "book" "LFableIndex$Book;", .methodLink RX2 30 yX2_needMoral, .static yX2_needMoral, .initialized RX2, .code yX2_needMoral cX2_needMoral 1 none, .classLink RX2 238 "java/lang/IndexOutOfBoundsException", .initialized "java/lang/IndexOutOfBoundsException", .methodLink RX2 151 yX0_withMoral, .instanceMethod yX0_withMoral, .selects RX0 yX0_withMoral yX0_withMoral, .initialized RX0, .code yX0_withMoral cX0_withMoral 4 (some .int), .fieldLink RX0 9 "FableIndex$Book" "count" "I", .fieldLink RX0 15 "FableIndex$Book" "moral" "[I", .methodLink RX2 70 yX2_size, .static yX2_size, .code yX2_size cX2_size 1 (some .int), .methodLink RX2 253 yJ6_bitCount_0f7a4, .static yJ6_bitCount_0f7a4, .initialized RJ6, .code yJ6_bitCount_0f7a4 cJ6_bitCount_0f7a4 1 (some .int), .constant RJ6 265 (1431655765), .constant RJ6 266 (858993459), .constant RJ6 267 (252645135)] ++ wsX20 ++ wsX00 ++ (vx_atS RX2 242 "java/lang/IndexOutOfBoundsException" ["java/lang/RuntimeException", "java/lang/Exception"]).filter goodWord)
def wsX2_fablesWithBeast_r1 : List Cond := [Cond.fieldLink RX2 10 "FableIndex" "book" "LFableIndex$Book;", Cond.methodLink RX2 34 yX2_needBeast, Cond.static yX2_needBeast, Cond.initialized RX2, Cond.code yX2_needBeast cX2_needBeast 1 none, Cond.classLink RX2 238 "java/lang/IndexOutOfBoundsException", Cond.initialized "java/lang/IndexOutOfBoundsException", Cond.methodLink RX2 154 yX0_withBeast, Cond.instanceMethod yX0_withBeast, Cond.selects RX0 yX0_withBeast yX0_withBeast, Cond.initialized RX0, Cond.code yX0_withBeast cX0_withBeast 4 (some .int), Cond.fieldLink RX0 9 "FableIndex$Book" "count" "I", Cond.fieldLink RX0 19 "FableIndex$Book" "beasts" "[I", Cond.static yX2_has, Cond.code yX2_has cX2_has 2 (some .boolean), Cond.methodLink RX2 70 yX2_size, Cond.static yX2_size, Cond.code yX2_size cX2_size 1 (some .int), Cond.methodLink RX2 253 yJ6_bitCount_0f7a4, Cond.static yJ6_bitCount_0f7a4, Cond.initialized RJ6, Cond.code yJ6_bitCount_0f7a4 cJ6_bitCount_0f7a4 1 (some .int), Cond.constant RJ6 265 (1431655765)]
def wsX2_fablesWithBeast_r2 : List Cond := [Cond.constant RJ6 266 (858993459), Cond.constant RJ6 267 (252645135)]
def wsX2_fablesWithBeast : List Cond := .code yX2_fablesWithBeast cX2_fablesWithBeast 2 (some .int) :: ((wsX2_fablesWithBeast_r1 ++ wsX2_fablesWithBeast_r2) ++ wsX20 ++ wsX00 ++ (vx_atS RX2 242 "java/lang/IndexOutOfBoundsException" ["java/lang/RuntimeException", "java/lang/Exception"]).filter goodWord)
def wsX2_favouriteMoral_r1 : List Cond := [Cond.fieldLink RX2 19 "FableIndex" "land" "LFableIndex$Land;", Cond.fieldLink RX2 10 "FableIndex" "book" "LFableIndex$Book;", Cond.methodLink RX2 151 yX0_withMoral, Cond.instanceMethod yX0_withMoral, Cond.selects RX0 yX0_withMoral yX0_withMoral, Cond.initialized RX0, Cond.code yX0_withMoral cX0_withMoral 4 (some .int), Cond.fieldLink RX0 9 "FableIndex$Book" "count" "I", Cond.fieldLink RX0 15 "FableIndex$Book" "moral" "[I", Cond.methodLink RX2 114 yX1_count, Cond.instanceMethod yX1_count, Cond.selects RX1 yX1_count yX1_count, Cond.initialized RX1, Cond.code yX1_count cX1_count 4 (some .int), Cond.fieldLink RX1 21 "FableIndex$Land" "told" "[I", Cond.static yX2_size, Cond.initialized RX2, Cond.code yX2_size cX2_size 1 (some .int), Cond.methodLink RX2 253 yJ6_bitCount_0f7a4, Cond.static yJ6_bitCount_0f7a4, Cond.initialized RJ6, Cond.code yJ6_bitCount_0f7a4 cJ6_bitCount_0f7a4 1 (some .int), Cond.constant RJ6 265 (1431655765), Cond.constant RJ6 266 (858993459)]
def wsX2_favouriteMoral_r2 : List Cond := [Cond.constant RJ6 267 (252645135)]
def wsX2_favouriteMoral : List Cond := .code yX2_favouriteMoral cX2_favouriteMoral 5 (some .int) :: ((wsX2_favouriteMoral_r1 ++ wsX2_favouriteMoral_r2) ++ wsX20 ++ wsX00 ++ wsX10)
def wsX2_favouriteBeast_r1 : List Cond := [Cond.fieldLink RX2 19 "FableIndex" "land" "LFableIndex$Land;", Cond.fieldLink RX2 10 "FableIndex" "book" "LFableIndex$Book;", Cond.methodLink RX2 154 yX0_withBeast, Cond.instanceMethod yX0_withBeast, Cond.selects RX0 yX0_withBeast yX0_withBeast, Cond.initialized RX0, Cond.code yX0_withBeast cX0_withBeast 4 (some .int), Cond.fieldLink RX0 9 "FableIndex$Book" "count" "I", Cond.fieldLink RX0 19 "FableIndex$Book" "beasts" "[I", Cond.static yX2_has, Cond.initialized RX2, Cond.code yX2_has cX2_has 2 (some .boolean), Cond.methodLink RX2 114 yX1_count, Cond.instanceMethod yX1_count, Cond.selects RX1 yX1_count yX1_count, Cond.initialized RX1, Cond.code yX1_count cX1_count 4 (some .int), Cond.fieldLink RX1 21 "FableIndex$Land" "told" "[I", Cond.static yX2_size, Cond.code yX2_size cX2_size 1 (some .int), Cond.methodLink RX2 253 yJ6_bitCount_0f7a4, Cond.static yJ6_bitCount_0f7a4, Cond.initialized RJ6, Cond.code yJ6_bitCount_0f7a4 cJ6_bitCount_0f7a4 1 (some .int)]
def wsX2_favouriteBeast_r2 : List Cond := [Cond.constant RJ6 265 (1431655765), Cond.constant RJ6 266 (858993459), Cond.constant RJ6 267 (252645135)]
def wsX2_favouriteBeast : List Cond := .code yX2_favouriteBeast cX2_favouriteBeast 5 (some .int) :: ((wsX2_favouriteBeast_r1 ++ wsX2_favouriteBeast_r2) ++ wsX20 ++ wsX00 ++ wsX10)
def wsX2_meanBeasts : List Cond := .code yX2_meanBeasts cX2_meanBeasts 3 (some .double) :: ([.fieldLink RX2 10 "FableIndex" "book" "LFableIndex$Book;", .fieldLink RX2 146 "FableIndex$Book" "count" "I", .fieldLink RX2 50 "FableIndex$Book" "beasts" "[I", .methodLink RX2 70 yX2_size, .static yX2_size, .initialized RX2, .code yX2_size cX2_size 1 (some .int), .methodLink RX2 253 yJ6_bitCount_0f7a4, .static yJ6_bitCount_0f7a4, .initialized RJ6, .code yJ6_bitCount_0f7a4 cJ6_bitCount_0f7a4 1 (some .int), .constant RJ6 265 (1431655765), .constant RJ6 266 (858993459), .constant RJ6 267 (252645135)] ++ wsX20 ++ wsX00)
def wsX3_init : List Cond := .code yX3_init cX3_init 1 none :: ([.methodLink RX3 1 objectInit, .instanceMethod objectInit, .code objectInit ⟨#[0xb1]⟩ 1 none, .classLink RX3 7 "[I", .fieldLink RX3 9 "FableIndexLaw$Sim" "fables" "[[I", .classLink RX3 15 "[Z", .fieldLink RX3 17 "FableIndexLaw$Sim" "beasts" "[[Z", .classLink RX3 21 "[[Z", .arrayClass .boolean, .fieldLink RX3 22 "FableIndexLaw$Sim" "told" "[[Z", .fieldLink RX3 25 "FableIndexLaw$Sim" "morals" "[[Z", .fieldLink RX3 28 "FableIndexLaw$Sim" "bans" "[[Z", .fieldLink RX3 31 "FableIndexLaw$Sim" "passes" "[[Z"] ++ wsX30)
def wsX3_isBanned : List Cond := .code yX3_isBanned cX3_isBanned 5 (some .boolean) :: ([.fieldLink RX3 25 "FableIndexLaw$Sim" "morals" "[[Z", .fieldLink RX3 9 "FableIndexLaw$Sim" "fables" "[[I", .fieldLink RX3 17 "FableIndexLaw$Sim" "beasts" "[[Z", .fieldLink RX3 28 "FableIndexLaw$Sim" "bans" "[[Z"] ++ wsX30)
def wsX3_pass : List Cond := .code yX3_pass cX3_pass 7 none :: ([.fieldLink RX3 35 "FableIndexLaw$Sim" "n" "I", .fieldLink RX3 22 "FableIndexLaw$Sim" "told" "[[Z", .fieldLink RX3 42 "FableIndexLaw$Sim" "silenced" "I", .classLink RX3 21 "[[Z", .arrayClass .boolean, .fieldLink RX3 31 "FableIndexLaw$Sim" "passes" "[[Z", .fieldLink RX3 25 "FableIndexLaw$Sim" "morals" "[[Z", .fieldLink RX3 9 "FableIndexLaw$Sim" "fables" "[[I", .fieldLink RX3 39 "FableIndexLaw$Sim" "season" "I", .methodLink RX3 49 yX3_isBanned, .instanceMethod yX3_isBanned, .selects RX3 yX3_isBanned yX3_isBanned, .initialized RX3, .code yX3_isBanned cX3_isBanned 5 (some .boolean), .fieldLink RX3 17 "FableIndexLaw$Sim" "beasts" "[[Z", .fieldLink RX3 28 "FableIndexLaw$Sim" "bans" "[[Z"] ++ wsX30)
def wsX3_behind : List Cond := .code yX3_behind cX3_behind 3 (some (.object "FableIndexLaw$Sim")) :: ([.methodLink RX3 53 yX3_pass, .instanceMethod yX3_pass, .selects RX3 yX3_pass yX3_pass, .initialized RX3, .code yX3_pass cX3_pass 7 none, .fieldLink RX3 35 "FableIndexLaw$Sim" "n" "I", .fieldLink RX3 22 "FableIndexLaw$Sim" "told" "[[Z", .fieldLink RX3 42 "FableIndexLaw$Sim" "silenced" "I", .classLink RX3 21 "[[Z", .arrayClass .boolean, .fieldLink RX3 31 "FableIndexLaw$Sim" "passes" "[[Z", .fieldLink RX3 25 "FableIndexLaw$Sim" "morals" "[[Z", .fieldLink RX3 9 "FableIndexLaw$Sim" "fables" "[[I", .fieldLink RX3 39 "FableIndexLaw$Sim" "season" "I", .methodLink RX3 49 yX3_isBanned, .instanceMethod yX3_isBanned, .selects RX3 yX3_isBanned yX3_isBanned, .code yX3_isBanned cX3_isBanned 5 (some .boolean), .fieldLink RX3 17 "FableIndexLaw$Sim" "beasts" "[[Z", .fieldLink RX3 28 "FableIndexLaw$Sim" "bans" "[[Z"] ++ wsX30)
def wsX3_valleys : List Cond := .code yX3_valleys cX3_valleys 7 (some .int) :: ([.fieldLink RX3 22 "FableIndexLaw$Sim" "told" "[[Z"] ++ wsX30)
def wsX3_tellings : List Cond := .code yX3_tellings cX3_tellings 3 (some .int) :: ([.fieldLink RX3 35 "FableIndexLaw$Sim" "n" "I", .methodLink RX3 56 yX3_valleys, .instanceMethod yX3_valleys, .selects RX3 yX3_valleys yX3_valleys, .initialized RX3, .code yX3_valleys cX3_valleys 7 (some .int), .fieldLink RX3 22 "FableIndexLaw$Sim" "told" "[[Z"] ++ wsX30)
def wsX3_beastsOf : List Cond := .code yX3_beastsOf cX3_beastsOf 7 (some .int) :: ([.fieldLink RX3 17 "FableIndexLaw$Sim" "beasts" "[[Z"] ++ wsX30)
def wsX3_hasVariant : List Cond := .code yX3_hasVariant cX3_hasVariant 3 (some .boolean) :: ([.fieldLink RX3 35 "FableIndexLaw$Sim" "n" "I", .fieldLink RX3 9 "FableIndexLaw$Sim" "fables" "[[I"] ++ wsX30)
def wsX3_loved : List Cond := .code yX3_loved cX3_loved 4 (some .int) :: ([.fieldLink RX3 35 "FableIndexLaw$Sim" "n" "I", .fieldLink RX3 9 "FableIndexLaw$Sim" "fables" "[[I", .fieldLink RX3 17 "FableIndexLaw$Sim" "beasts" "[[Z", .methodLink RX3 56 yX3_valleys, .instanceMethod yX3_valleys, .selects RX3 yX3_valleys yX3_valleys, .initialized RX3, .code yX3_valleys cX3_valleys 7 (some .int), .fieldLink RX3 22 "FableIndexLaw$Sim" "told" "[[Z"] ++ wsX30)
def wsX3_favourite : List Cond := .code yX3_favourite cX3_favourite 5 (some .int) :: ([.methodLink RX3 60 yX3_loved, .instanceMethod yX3_loved, .selects RX3 yX3_loved yX3_loved, .initialized RX3, .code yX3_loved cX3_loved 4 (some .int), .fieldLink RX3 35 "FableIndexLaw$Sim" "n" "I", .fieldLink RX3 9 "FableIndexLaw$Sim" "fables" "[[I", .fieldLink RX3 17 "FableIndexLaw$Sim" "beasts" "[[Z", .methodLink RX3 56 yX3_valleys, .instanceMethod yX3_valleys, .selects RX3 yX3_valleys yX3_valleys, .code yX3_valleys cX3_valleys 7 (some .int), .fieldLink RX3 22 "FableIndexLaw$Sim" "told" "[[Z"] ++ wsX30)
def wsX3_isSame_r1 : List Cond := [Cond.fieldLink RX3 35 "FableIndexLaw$Sim" "n" "I", Cond.fieldLink RX3 39 "FableIndexLaw$Sim" "season" "I", Cond.fieldLink RX3 42 "FableIndexLaw$Sim" "silenced" "I", Cond.arrayClass .int, Cond.fieldLink RX3 9 "FableIndexLaw$Sim" "fables" "[[I", Cond.fieldLink RX3 17 "FableIndexLaw$Sim" "beasts" "[[Z", Cond.fieldLink RX3 22 "FableIndexLaw$Sim" "told" "[[Z", Cond.fieldLink RX3 25 "FableIndexLaw$Sim" "morals" "[[Z", Cond.fieldLink RX3 28 "FableIndexLaw$Sim" "bans" "[[Z", Cond.fieldLink RX3 31 "FableIndexLaw$Sim" "passes" "[[Z", Cond.methodLink RX3 63 yX2_fables, Cond.instanceMethod yX2_fables, Cond.selects RX2 yX2_fables yX2_fables, Cond.initialized RX2, Cond.code yX2_fables cX2_fables 1 (some .int), Cond.fieldLink RX2 10 "FableIndex" "book" "LFableIndex$Book;", Cond.fieldLink RX2 146 "FableIndex$Book" "count" "I", Cond.methodLink RX3 68 yX2_season, Cond.instanceMethod yX2_season, Cond.selects RX2 yX2_season yX2_season, Cond.code yX2_season cX2_season 1 (some .int), Cond.fieldLink RX2 26 "FableIndex" "season" "I", Cond.methodLink RX3 70 yX2_tellings, Cond.instanceMethod yX2_tellings]
def wsX3_isSame_r2 : List Cond := [Cond.selects RX2 yX2_tellings yX2_tellings, Cond.code yX2_tellings cX2_tellings 1 (some .int), Cond.fieldLink RX2 19 "FableIndex" "land" "LFableIndex$Land;", Cond.methodLink RX2 126 yX0_all, Cond.instanceMethod yX0_all, Cond.selects RX0 yX0_all yX0_all, Cond.initialized RX0, Cond.code yX0_all cX0_all 1 (some .int), Cond.fieldLink RX0 9 "FableIndex$Book" "count" "I", Cond.methodLink RX2 114 yX1_count, Cond.instanceMethod yX1_count, Cond.selects RX1 yX1_count yX1_count, Cond.initialized RX1, Cond.code yX1_count cX1_count 4 (some .int), Cond.fieldLink RX1 21 "FableIndex$Land" "told" "[I", Cond.static yX2_size, Cond.code yX2_size cX2_size 1 (some .int), Cond.methodLink RX2 253 yJ6_bitCount_0f7a4, Cond.static yJ6_bitCount_0f7a4, Cond.initialized RJ6, Cond.code yJ6_bitCount_0f7a4 cJ6_bitCount_0f7a4 1 (some .int), Cond.constant RJ6 265 (1431655765), Cond.constant RJ6 266 (858993459), Cond.constant RJ6 267 (252645135)]
def wsX3_isSame_r3 : List Cond := [Cond.methodLink RX3 73 yX3_tellings, Cond.instanceMethod yX3_tellings, Cond.selects RX3 yX3_tellings yX3_tellings, Cond.initialized RX3, Cond.code yX3_tellings cX3_tellings 3 (some .int), Cond.methodLink RX3 56 yX3_valleys, Cond.instanceMethod yX3_valleys, Cond.selects RX3 yX3_valleys yX3_valleys, Cond.code yX3_valleys cX3_valleys 7 (some .int), Cond.methodLink RX3 74 yX2_silenced, Cond.instanceMethod yX2_silenced, Cond.selects RX2 yX2_silenced yX2_silenced, Cond.code yX2_silenced cX2_silenced 1 (some .int), Cond.fieldLink RX2 148 "FableIndex$Land" "hushed" "I", Cond.methodLink RX3 76 yX2_favouriteMoral, Cond.instanceMethod yX2_favouriteMoral, Cond.selects RX2 yX2_favouriteMoral yX2_favouriteMoral, Cond.code yX2_favouriteMoral cX2_favouriteMoral 5 (some .int), Cond.methodLink RX2 151 yX0_withMoral, Cond.instanceMethod yX0_withMoral, Cond.selects RX0 yX0_withMoral yX0_withMoral, Cond.code yX0_withMoral cX0_withMoral 4 (some .int), Cond.fieldLink RX0 15 "FableIndex$Book" "moral" "[I", Cond.methodLink RX3 79 yX3_favourite]
def wsX3_isSame_r4 : List Cond := [Cond.instanceMethod yX3_favourite, Cond.selects RX3 yX3_favourite yX3_favourite, Cond.code yX3_favourite cX3_favourite 5 (some .int), Cond.methodLink RX3 60 yX3_loved, Cond.instanceMethod yX3_loved, Cond.selects RX3 yX3_loved yX3_loved, Cond.code yX3_loved cX3_loved 4 (some .int), Cond.methodLink RX3 83 yX2_favouriteBeast, Cond.instanceMethod yX2_favouriteBeast, Cond.selects RX2 yX2_favouriteBeast yX2_favouriteBeast, Cond.code yX2_favouriteBeast cX2_favouriteBeast 5 (some .int), Cond.methodLink RX2 154 yX0_withBeast, Cond.instanceMethod yX0_withBeast, Cond.selects RX0 yX0_withBeast yX0_withBeast, Cond.code yX0_withBeast cX0_withBeast 4 (some .int), Cond.fieldLink RX0 19 "FableIndex$Book" "beasts" "[I", Cond.static yX2_has, Cond.code yX2_has cX2_has 2 (some .boolean), Cond.methodLink RX3 86 yX2_moralOf, Cond.instanceMethod yX2_moralOf, Cond.selects RX2 yX2_moralOf yX2_moralOf, Cond.code yX2_moralOf cX2_moralOf 2 (some .int), Cond.fieldLink RX2 78 "FableIndex$Book" "moral" "[I", Cond.methodLink RX2 47 yX2_needFable]
def wsX3_isSame_r5 : List Cond := [Cond.instanceMethod yX2_needFable, Cond.selects RX2 yX2_needFable yX2_needFable, Cond.code yX2_needFable cX2_needFable 2 none, Cond.classLink RX2 238 "java/lang/IndexOutOfBoundsException", Cond.initialized "java/lang/IndexOutOfBoundsException", Cond.methodLink RX3 89 yX2_homeOf, Cond.instanceMethod yX2_homeOf, Cond.selects RX2 yX2_homeOf yX2_homeOf, Cond.code yX2_homeOf cX2_homeOf 2 (some .int), Cond.fieldLink RX2 130 "FableIndex$Book" "home" "[I", Cond.methodLink RX3 92 yX2_parentOf, Cond.instanceMethod yX2_parentOf, Cond.selects RX2 yX2_parentOf yX2_parentOf, Cond.code yX2_parentOf cX2_parentOf 2 (some .int), Cond.fieldLink RX2 133 "FableIndex$Book" "parent" "[I", Cond.methodLink RX3 95 yX2_beastsOf, Cond.instanceMethod yX2_beastsOf, Cond.selects RX2 yX2_beastsOf yX2_beastsOf, Cond.code yX2_beastsOf cX2_beastsOf 2 (some .int), Cond.fieldLink RX2 50 "FableIndex$Book" "beasts" "[I", Cond.methodLink RX2 70 yX2_size, Cond.methodLink RX3 98 yX3_beastsOf, Cond.instanceMethod yX3_beastsOf, Cond.selects RX3 yX3_beastsOf yX3_beastsOf]
def wsX3_isSame_r6 : List Cond := [Cond.code yX3_beastsOf cX3_beastsOf 7 (some .int), Cond.methodLink RX3 99 yX2_valleysOf, Cond.instanceMethod yX2_valleysOf, Cond.selects RX2 yX2_valleysOf yX2_valleysOf, Cond.code yX2_valleysOf cX2_valleysOf 2 (some .int), Cond.methodLink RX3 102 yX2_variantsOf, Cond.instanceMethod yX2_variantsOf, Cond.selects RX2 yX2_variantsOf yX2_variantsOf, Cond.code yX2_variantsOf cX2_variantsOf 2 (some .int), Cond.fieldLink RX2 65 "FableIndex$Book" "variants" "[I", Cond.methodLink RX3 105 yX2_hasBeast, Cond.instanceMethod yX2_hasBeast, Cond.selects RX2 yX2_hasBeast yX2_hasBeast, Cond.code yX2_hasBeast cX2_hasBeast 3 (some .boolean), Cond.methodLink RX2 34 yX2_needBeast, Cond.static yX2_needBeast, Cond.code yX2_needBeast cX2_needBeast 1 none, Cond.methodLink RX2 54 yX2_has, Cond.methodLink RX3 108 yX2_isTold, Cond.instanceMethod yX2_isTold, Cond.selects RX2 yX2_isTold yX2_isTold, Cond.code yX2_isTold cX2_isTold 3 (some .boolean), Cond.fieldLink RX2 103 "FableIndex$Land" "told" "[I", Cond.methodLink RX2 37 yX2_needValley]
def wsX3_isSame_r7 : List Cond := [Cond.static yX2_needValley, Cond.code yX2_needValley cX2_needValley 1 none, Cond.methodLink RX3 111 yX2_isBanned, Cond.instanceMethod yX2_isBanned, Cond.selects RX2 yX2_isBanned yX2_isBanned, Cond.code yX2_isBanned cX2_isBanned 3 (some .boolean), Cond.methodLink RX2 108 yX1_bans, Cond.instanceMethod yX1_bans, Cond.selects RX1 yX1_bans yX1_bans, Cond.code yX1_bans cX1_bans 4 (some .boolean), Cond.fieldLink RX1 15 "FableIndex$Land" "bannedMorals" "[I", Cond.fieldLink RX1 38 "FableIndex$Book" "moral" "[I", Cond.fieldLink RX1 18 "FableIndex$Land" "bannedBeasts" "[I", Cond.fieldLink RX1 47 "FableIndex$Book" "beasts" "[I", Cond.methodLink RX3 49 yX3_isBanned, Cond.instanceMethod yX3_isBanned, Cond.selects RX3 yX3_isBanned yX3_isBanned, Cond.code yX3_isBanned cX3_isBanned 5 (some .boolean), Cond.methodLink RX3 112 yX2_fablesWithMoral, Cond.instanceMethod yX2_fablesWithMoral, Cond.selects RX2 yX2_fablesWithMoral yX2_fablesWithMoral, Cond.code yX2_fablesWithMoral cX2_fablesWithMoral 2 (some .int), Cond.methodLink RX2 30 yX2_needMoral, Cond.static yX2_needMoral]
def wsX3_isSame_r8 : List Cond := [Cond.code yX2_needMoral cX2_needMoral 1 none, Cond.methodLink RX3 115 yX2_fablesWithBeast, Cond.instanceMethod yX2_fablesWithBeast, Cond.selects RX2 yX2_fablesWithBeast yX2_fablesWithBeast, Cond.code yX2_fablesWithBeast cX2_fablesWithBeast 2 (some .int), Cond.methodLink RX3 118 yX2_toldIn, Cond.instanceMethod yX2_toldIn, Cond.selects RX2 yX2_toldIn yX2_toldIn, Cond.code yX2_toldIn cX2_toldIn 2 (some .int), Cond.methodLink RX3 121 yX2_allowedIn, Cond.instanceMethod yX2_allowedIn, Cond.selects RX2 yX2_allowedIn yX2_allowedIn, Cond.code yX2_allowedIn cX2_allowedIn 2 (some .int), Cond.methodLink RX2 142 yX1_welcome, Cond.instanceMethod yX1_welcome, Cond.selects RX1 yX1_welcome yX1_welcome, Cond.code yX1_welcome cX1_welcome 5 (some .int), Cond.fieldLink RX1 50 "FableIndex$Book" "count" "I", Cond.methodLink RX1 53 yX1_bans, Cond.methodLink RX3 124 yX2_bansOf, Cond.instanceMethod yX2_bansOf, Cond.selects RX2 yX2_bansOf yX2_bansOf, Cond.code yX2_bansOf cX2_bansOf 2 (some .int), Cond.fieldLink RX2 97 "FableIndex$Land" "bannedMorals" "[I"]
def wsX3_isSame_r9 : List Cond := [Cond.fieldLink RX2 100 "FableIndex$Land" "bannedBeasts" "[I", Cond.methodLink RX3 127 yX2_isOpen, Cond.instanceMethod yX2_isOpen, Cond.selects RX2 yX2_isOpen yX2_isOpen, Cond.code yX2_isOpen cX2_isOpen 3 (some .boolean), Cond.fieldLink RX2 94 "FableIndex$Land" "ways" "[I", Cond.methodLink RX3 130 yX2_meanBeasts, Cond.instanceMethod yX2_meanBeasts, Cond.selects RX2 yX2_meanBeasts yX2_meanBeasts, Cond.code yX2_meanBeasts cX2_meanBeasts 3 (some .double)]
def wsX3_isSame : List Cond := .code yX3_isSame cX3_isSame 12 (some .boolean) :: ((wsX3_isSame_r1 ++ (wsX3_isSame_r2 ++ (wsX3_isSame_r3 ++ (wsX3_isSame_r4 ++ (wsX3_isSame_r5 ++ (wsX3_isSame_r6 ++ (wsX3_isSame_r7 ++ (wsX3_isSame_r8 ++ wsX3_isSame_r9)))))))) ++ wsX30 ++ wsX20 ++ wsX00 ++ wsX10 ++ (vx_atS RX2 242 "java/lang/IndexOutOfBoundsException" ["java/lang/RuntimeException", "java/lang/Exception"]).filter goodWord)
def wsL_below : List Cond := .code yL_below cL_below 2 (some .int) :: ([.constant RL 7 (2147483647)])
def wsL_cell : List Cond := .code yL_cell cL_cell 2 (some .int) :: ([.constant RL 8 (790386105)])
def wsL_act_r1 : List Cond := [Cond.fieldLink RL 9 "FableIndexLaw$Sim" "n" "I", Cond.fieldLink RL 21 "FableIndexLaw$Sim" "fables" "[[I", Cond.arrayClass .int, Cond.fieldLink RL 25 "FableIndexLaw$Sim" "beasts" "[[Z", Cond.arrayClass .boolean, Cond.methodLink RL 46 ⟨"[Z", "clone", "()Ljava/lang/Object;"⟩, Cond.sameMethod "[Z" "java/lang/Object" "clone" "()Ljava/lang/Object;", Cond.native ⟨"java/lang/Object", "clone", "()Ljava/lang/Object;"⟩, Cond.instanceMethod ⟨"java/lang/Object", "clone", "()Ljava/lang/Object;"⟩, Cond.selects "[Z" ⟨"[Z", "clone", "()Ljava/lang/Object;"⟩ ⟨"java/lang/Object", "clone", "()Ljava/lang/Object;"⟩, Cond.classLink RL 47 "[Z", Cond.fieldLink RL 56 "FableIndexLaw$Sim" "passes" "[[Z", Cond.fieldLink RL 63 "FableIndexLaw$Sim" "morals" "[[Z", Cond.fieldLink RL 69 "FableIndexLaw$Sim" "bans" "[[Z", Cond.fieldLink RL 75 "FableIndexLaw$Sim" "told" "[[Z", Cond.methodLink RL 15 yL_below, Cond.static yL_below, Cond.initialized RL, Cond.code yL_below cL_below 2 (some .int), Cond.constant RL 7 (2147483647), Cond.methodLink RL 29 yX2_addFable, Cond.instanceMethod yX2_addFable, Cond.selects RX2 yX2_addFable yX2_addFable, Cond.initialized RX2]
def wsL_act_r2 : List Cond := [Cond.code yX2_addFable cX2_addFable 4 (some .int), Cond.fieldLink RX2 10 "FableIndex" "book" "LFableIndex$Book;", Cond.methodLink RX2 30 yX2_needMoral, Cond.static yX2_needMoral, Cond.code yX2_needMoral cX2_needMoral 1 none, Cond.classLink RX2 238 "java/lang/IndexOutOfBoundsException", Cond.initialized "java/lang/IndexOutOfBoundsException", Cond.methodLink RX2 34 yX2_needBeast, Cond.static yX2_needBeast, Cond.code yX2_needBeast cX2_needBeast 1 none, Cond.methodLink RX2 37 yX2_needValley, Cond.static yX2_needValley, Cond.code yX2_needValley cX2_needValley 1 none, Cond.methodLink RX2 40 yX2_needFreePage, Cond.instanceMethod yX2_needFreePage, Cond.selects RX2 yX2_needFreePage yX2_needFreePage, Cond.code yX2_needFreePage cX2_needFreePage 1 none, Cond.classLink RX2 58 "java/lang/IllegalStateException", Cond.initialized "java/lang/IllegalStateException", Cond.fieldLink RX2 146 "FableIndex$Book" "count" "I", Cond.methodLink RX2 43 yX0_write, Cond.instanceMethod yX0_write, Cond.selects RX0 yX0_write yX0_write, Cond.initialized RX0]
def wsL_act_r3 : List Cond := [Cond.code yX0_write cX0_write 6 (some .int), Cond.fieldLink RX0 9 "FableIndex$Book" "count" "I", Cond.fieldLink RX0 15 "FableIndex$Book" "moral" "[I", Cond.fieldLink RX0 19 "FableIndex$Book" "beasts" "[I", Cond.fieldLink RX0 22 "FableIndex$Book" "home" "[I", Cond.fieldLink RX0 25 "FableIndex$Book" "parent" "[I", Cond.fieldLink RX0 28 "FableIndex$Book" "variants" "[I", Cond.fieldLink RX0 31 "FableIndex$Book" "ancestors" "[I", Cond.methodLink RL 35 yX3_hasVariant, Cond.instanceMethod yX3_hasVariant, Cond.selects RX3 yX3_hasVariant yX3_hasVariant, Cond.initialized RX3, Cond.code yX3_hasVariant cX3_hasVariant 3 (some .boolean), Cond.fieldLink RX3 35 "FableIndexLaw$Sim" "n" "I", Cond.fieldLink RX3 9 "FableIndexLaw$Sim" "fables" "[[I", Cond.methodLink RL 39 yX2_addBeast, Cond.instanceMethod yX2_addBeast, Cond.selects RX2 yX2_addBeast yX2_addBeast, Cond.code yX2_addBeast cX2_addBeast 3 (some .int), Cond.fieldLink RX2 50 "FableIndex$Book" "beasts" "[I", Cond.fieldLink RX2 65 "FableIndex$Book" "variants" "[I", Cond.methodLink RX2 47 yX2_needFable, Cond.instanceMethod yX2_needFable, Cond.selects RX2 yX2_needFable yX2_needFable]
def wsL_act_r4 : List Cond := [Cond.code yX2_needFable cX2_needFable 2 none, Cond.methodLink RX2 54 yX2_has, Cond.static yX2_has, Cond.code yX2_has cX2_has 2 (some .boolean), Cond.methodLink RX2 70 yX2_size, Cond.static yX2_size, Cond.code yX2_size cX2_size 1 (some .int), Cond.methodLink RX2 253 yJ6_bitCount_0f7a4, Cond.static yJ6_bitCount_0f7a4, Cond.initialized RJ6, Cond.code yJ6_bitCount_0f7a4 cJ6_bitCount_0f7a4 1 (some .int), Cond.constant RJ6 265 (1431655765), Cond.constant RJ6 266 (858993459), Cond.constant RJ6 267 (252645135), Cond.methodLink RL 42 yX3_beastsOf, Cond.instanceMethod yX3_beastsOf, Cond.selects RX3 yX3_beastsOf yX3_beastsOf, Cond.code yX3_beastsOf cX3_beastsOf 7 (some .int), Cond.fieldLink RX3 17 "FableIndexLaw$Sim" "beasts" "[[Z", Cond.methodLink RL 52 yX2_addVariant, Cond.instanceMethod yX2_addVariant, Cond.selects RX2 yX2_addVariant yX2_addVariant, Cond.code yX2_addVariant cX2_addVariant 6 (some .int), Cond.fieldLink RX2 78 "FableIndex$Book" "moral" "[I"]
def wsL_act_r5 : List Cond := [Cond.methodLink RX2 81 yX2_turned, Cond.static yX2_turned, Cond.code yX2_turned cX2_turned 2 (some .int), Cond.methodLink RL 59 yX2_turnPass, Cond.instanceMethod yX2_turnPass, Cond.selects RX2 yX2_turnPass yX2_turnPass, Cond.code yX2_turnPass cX2_turnPass 3 (some .boolean), Cond.classLink RX2 85 "java/lang/IllegalArgumentException", Cond.initialized "java/lang/IllegalArgumentException", Cond.fieldLink RX2 19 "FableIndex" "land" "LFableIndex$Land;", Cond.fieldLink RX2 94 "FableIndex$Land" "ways" "[I", Cond.methodLink RX2 90 yX1_turnWay, Cond.instanceMethod yX1_turnWay, Cond.selects RX1 yX1_turnWay yX1_turnWay, Cond.initialized RX1, Cond.code yX1_turnWay cX1_turnWay 3 none, Cond.fieldLink RX1 9 "FableIndex$Land" "ways" "[I", Cond.methodLink RL 66 yX2_turnMoral, Cond.instanceMethod yX2_turnMoral, Cond.selects RX2 yX2_turnMoral yX2_turnMoral, Cond.code yX2_turnMoral cX2_turnMoral 3 (some .boolean), Cond.fieldLink RX2 97 "FableIndex$Land" "bannedMorals" "[I", Cond.methodLink RL 72 yX2_turnBeast, Cond.instanceMethod yX2_turnBeast]
def wsL_act_r6 : List Cond := [Cond.selects RX2 yX2_turnBeast yX2_turnBeast, Cond.code yX2_turnBeast cX2_turnBeast 3 (some .boolean), Cond.fieldLink RX2 100 "FableIndex$Land" "bannedBeasts" "[I", Cond.methodLink RL 78 yX3_isBanned, Cond.instanceMethod yX3_isBanned, Cond.selects RX3 yX3_isBanned yX3_isBanned, Cond.code yX3_isBanned cX3_isBanned 5 (some .boolean), Cond.fieldLink RX3 25 "FableIndexLaw$Sim" "morals" "[[Z", Cond.fieldLink RX3 28 "FableIndexLaw$Sim" "bans" "[[Z", Cond.methodLink RL 81 yX2_tell, Cond.instanceMethod yX2_tell, Cond.selects RX2 yX2_tell yX2_tell, Cond.code yX2_tell cX2_tell 3 (some .int), Cond.fieldLink RX2 103 "FableIndex$Land" "told" "[I", Cond.methodLink RX2 108 yX1_bans, Cond.instanceMethod yX1_bans, Cond.selects RX1 yX1_bans yX1_bans, Cond.code yX1_bans cX1_bans 4 (some .boolean), Cond.fieldLink RX1 15 "FableIndex$Land" "bannedMorals" "[I", Cond.fieldLink RX1 38 "FableIndex$Book" "moral" "[I", Cond.fieldLink RX1 18 "FableIndex$Land" "bannedBeasts" "[I", Cond.fieldLink RX1 47 "FableIndex$Book" "beasts" "[I", Cond.methodLink RX2 114 yX1_count, Cond.instanceMethod yX1_count]
def wsL_act_r7 : List Cond := [Cond.selects RX1 yX1_count yX1_count, Cond.code yX1_count cX1_count 4 (some .int), Cond.fieldLink RX1 21 "FableIndex$Land" "told" "[I", Cond.methodLink RL 84 yX3_valleys, Cond.instanceMethod yX3_valleys, Cond.selects RX3 yX3_valleys yX3_valleys, Cond.code yX3_valleys cX3_valleys 7 (some .int), Cond.fieldLink RX3 22 "FableIndexLaw$Sim" "told" "[[Z", Cond.methodLink RL 87 yX2_forget, Cond.instanceMethod yX2_forget, Cond.selects RX2 yX2_forget yX2_forget, Cond.code yX2_forget cX2_forget 3 (some .int), Cond.methodLink RL 90 yX2_passSeasons, Cond.instanceMethod yX2_passSeasons, Cond.selects RX2 yX2_passSeasons yX2_passSeasons, Cond.code yX2_passSeasons cX2_passSeasons 2 (some .int), Cond.fieldLink RX2 26 "FableIndex" "season" "I", Cond.methodLink RX2 119 yX2_needSeasons, Cond.static yX2_needSeasons, Cond.code yX2_needSeasons cX2_needSeasons 2 none, Cond.methodLink RX2 122 yX1_live, Cond.instanceMethod yX1_live, Cond.selects RX1 yX1_live yX1_live, Cond.code yX1_live cX1_live 5 none]
def wsL_act_r8 : List Cond := [Cond.fieldLink RX1 24 "FableIndex$Land" "allowed" "[I", Cond.methodLink RX1 61 yX1_welcome, Cond.instanceMethod yX1_welcome, Cond.selects RX1 yX1_welcome yX1_welcome, Cond.code yX1_welcome cX1_welcome 5 (some .int), Cond.fieldLink RX1 50 "FableIndex$Book" "count" "I", Cond.methodLink RX1 53 yX1_bans, Cond.methodLink RX1 65 yX1_hush, Cond.instanceMethod yX1_hush, Cond.selects RX1 yX1_hush yX1_hush, Cond.code yX1_hush cX1_hush 2 none, Cond.fieldLink RX1 27 "FableIndex$Land" "kept" "[I", Cond.fieldLink RX1 30 "FableIndex$Land" "hushed" "I", Cond.methodLink RX1 68 yX1_spread, Cond.instanceMethod yX1_spread, Cond.selects RX1 yX1_spread yX1_spread, Cond.code yX1_spread cX1_spread 5 (some .boolean), Cond.methodLink RX1 72 yX1_arriving, Cond.instanceMethod yX1_arriving, Cond.selects RX1 yX1_arriving yX1_arriving, Cond.code yX1_arriving cX1_arriving 4 (some .int), Cond.methodLink RX1 75 yX1_admitted, Cond.instanceMethod yX1_admitted, Cond.selects RX1 yX1_admitted yX1_admitted]
def wsL_act_r9 : List Cond := [Cond.code yX1_admitted cX1_admitted 7 (some .int), Cond.fieldLink RX1 79 "FableIndex$Book" "variants" "[I", Cond.static yX2_smallestAlone, Cond.code yX2_smallestAlone cX2_smallestAlone 1 (some .int), Cond.methodLink RX2 126 yX0_all, Cond.instanceMethod yX0_all, Cond.selects RX0 yX0_all yX0_all, Cond.code yX0_all cX0_all 1 (some .int), Cond.methodLink RL 93 yX3_behind, Cond.instanceMethod yX3_behind, Cond.selects RX3 yX3_behind yX3_behind, Cond.code yX3_behind cX3_behind 3 (some (.object "FableIndexLaw$Sim")), Cond.methodLink RX3 53 yX3_pass, Cond.instanceMethod yX3_pass, Cond.selects RX3 yX3_pass yX3_pass, Cond.code yX3_pass cX3_pass 7 none, Cond.fieldLink RX3 42 "FableIndexLaw$Sim" "silenced" "I", Cond.classLink RX3 21 "[[Z", Cond.fieldLink RX3 31 "FableIndexLaw$Sim" "passes" "[[Z", Cond.fieldLink RX3 39 "FableIndexLaw$Sim" "season" "I", Cond.methodLink RX3 49 yX3_isBanned, Cond.methodLink RL 97 yX3_tellings, Cond.instanceMethod yX3_tellings, Cond.selects RX3 yX3_tellings yX3_tellings]
def wsL_act_r10 : List Cond := [Cond.code yX3_tellings cX3_tellings 3 (some .int), Cond.methodLink RX3 56 yX3_valleys]
def wsL_act : List Cond := .code yL_act cL_act 13 (some .boolean) :: ((wsL_act_r1 ++ (wsL_act_r2 ++ (wsL_act_r3 ++ (wsL_act_r4 ++ (wsL_act_r5 ++ (wsL_act_r6 ++ (wsL_act_r7 ++ (wsL_act_r8 ++ (wsL_act_r9 ++ wsL_act_r10))))))))) ++ wsX30 ++ wsX20 ++ wsX00 ++ wsX10 ++ (vx_atS RX2 242 "java/lang/IndexOutOfBoundsException" ["java/lang/RuntimeException", "java/lang/Exception"]).filter goodWord ++ (vx_atS RX2 62 "java/lang/IllegalStateException" ["java/lang/RuntimeException", "java/lang/Exception"]).filter goodWord ++ (vx_atS RX2 89 "java/lang/IllegalArgumentException" ["java/lang/RuntimeException", "java/lang/Exception"]).filter goodWord)
def wsL_build_r1 : List Cond := [Cond.classLink RL 10 RX3, Cond.instantiable RX3 9, Cond.initialized RX3, Cond.instanceMethod yX3_init, Cond.code yX3_init cX3_init 1 none, Cond.methodLink RX3 1 objectInit, Cond.instanceMethod objectInit, Cond.code objectInit ⟨#[0xb1]⟩ 1 none, Cond.classLink RX3 7 "[I", Cond.fieldLink RX3 9 "FableIndexLaw$Sim" "fables" "[[I", Cond.classLink RX3 15 "[Z", Cond.fieldLink RX3 17 "FableIndexLaw$Sim" "beasts" "[[Z", Cond.classLink RX3 21 "[[Z", Cond.arrayClass .boolean, Cond.fieldLink RX3 22 "FableIndexLaw$Sim" "told" "[[Z", Cond.fieldLink RX3 25 "FableIndexLaw$Sim" "morals" "[[Z", Cond.fieldLink RX3 28 "FableIndexLaw$Sim" "bans" "[[Z", Cond.fieldLink RX3 31 "FableIndexLaw$Sim" "passes" "[[Z", Cond.methodLink RL 102 yL_cell, Cond.static yL_cell, Cond.initialized RL, Cond.code yL_cell cL_cell 2 (some .int), Cond.constant RL 8 (790386105), Cond.methodLink RL 15 yL_below]
def wsL_build_r2 : List Cond := [Cond.static yL_below, Cond.code yL_below cL_below 2 (some .int), Cond.constant RL 7 (2147483647), Cond.methodLink RL 106 yL_act, Cond.static yL_act, Cond.code yL_act cL_act 13 (some .boolean), Cond.fieldLink RL 9 "FableIndexLaw$Sim" "n" "I", Cond.fieldLink RL 21 "FableIndexLaw$Sim" "fables" "[[I", Cond.arrayClass .int, Cond.fieldLink RL 25 "FableIndexLaw$Sim" "beasts" "[[Z", Cond.methodLink RL 46 ⟨"[Z", "clone", "()Ljava/lang/Object;"⟩, Cond.sameMethod "[Z" "java/lang/Object" "clone" "()Ljava/lang/Object;", Cond.native ⟨"java/lang/Object", "clone", "()Ljava/lang/Object;"⟩, Cond.instanceMethod ⟨"java/lang/Object", "clone", "()Ljava/lang/Object;"⟩, Cond.selects "[Z" ⟨"[Z", "clone", "()Ljava/lang/Object;"⟩ ⟨"java/lang/Object", "clone", "()Ljava/lang/Object;"⟩, Cond.classLink RL 47 "[Z", Cond.fieldLink RL 56 "FableIndexLaw$Sim" "passes" "[[Z", Cond.fieldLink RL 63 "FableIndexLaw$Sim" "morals" "[[Z", Cond.fieldLink RL 69 "FableIndexLaw$Sim" "bans" "[[Z", Cond.fieldLink RL 75 "FableIndexLaw$Sim" "told" "[[Z", Cond.methodLink RL 29 yX2_addFable, Cond.instanceMethod yX2_addFable, Cond.selects RX2 yX2_addFable yX2_addFable, Cond.initialized RX2]
def wsL_build_r3 : List Cond := [Cond.code yX2_addFable cX2_addFable 4 (some .int), Cond.fieldLink RX2 10 "FableIndex" "book" "LFableIndex$Book;", Cond.methodLink RX2 30 yX2_needMoral, Cond.static yX2_needMoral, Cond.code yX2_needMoral cX2_needMoral 1 none, Cond.classLink RX2 238 "java/lang/IndexOutOfBoundsException", Cond.initialized "java/lang/IndexOutOfBoundsException", Cond.methodLink RX2 34 yX2_needBeast, Cond.static yX2_needBeast, Cond.code yX2_needBeast cX2_needBeast 1 none, Cond.methodLink RX2 37 yX2_needValley, Cond.static yX2_needValley, Cond.code yX2_needValley cX2_needValley 1 none, Cond.methodLink RX2 40 yX2_needFreePage, Cond.instanceMethod yX2_needFreePage, Cond.selects RX2 yX2_needFreePage yX2_needFreePage, Cond.code yX2_needFreePage cX2_needFreePage 1 none, Cond.classLink RX2 58 "java/lang/IllegalStateException", Cond.initialized "java/lang/IllegalStateException", Cond.fieldLink RX2 146 "FableIndex$Book" "count" "I", Cond.methodLink RX2 43 yX0_write, Cond.instanceMethod yX0_write, Cond.selects RX0 yX0_write yX0_write, Cond.initialized RX0]
def wsL_build_r4 : List Cond := [Cond.code yX0_write cX0_write 6 (some .int), Cond.fieldLink RX0 9 "FableIndex$Book" "count" "I", Cond.fieldLink RX0 15 "FableIndex$Book" "moral" "[I", Cond.fieldLink RX0 19 "FableIndex$Book" "beasts" "[I", Cond.fieldLink RX0 22 "FableIndex$Book" "home" "[I", Cond.fieldLink RX0 25 "FableIndex$Book" "parent" "[I", Cond.fieldLink RX0 28 "FableIndex$Book" "variants" "[I", Cond.fieldLink RX0 31 "FableIndex$Book" "ancestors" "[I", Cond.methodLink RL 35 yX3_hasVariant, Cond.instanceMethod yX3_hasVariant, Cond.selects RX3 yX3_hasVariant yX3_hasVariant, Cond.code yX3_hasVariant cX3_hasVariant 3 (some .boolean), Cond.fieldLink RX3 35 "FableIndexLaw$Sim" "n" "I", Cond.methodLink RL 39 yX2_addBeast, Cond.instanceMethod yX2_addBeast, Cond.selects RX2 yX2_addBeast yX2_addBeast, Cond.code yX2_addBeast cX2_addBeast 3 (some .int), Cond.fieldLink RX2 50 "FableIndex$Book" "beasts" "[I", Cond.fieldLink RX2 65 "FableIndex$Book" "variants" "[I", Cond.methodLink RX2 47 yX2_needFable, Cond.instanceMethod yX2_needFable, Cond.selects RX2 yX2_needFable yX2_needFable, Cond.code yX2_needFable cX2_needFable 2 none, Cond.methodLink RX2 54 yX2_has]
def wsL_build_r5 : List Cond := [Cond.static yX2_has, Cond.code yX2_has cX2_has 2 (some .boolean), Cond.methodLink RX2 70 yX2_size, Cond.static yX2_size, Cond.code yX2_size cX2_size 1 (some .int), Cond.methodLink RX2 253 yJ6_bitCount_0f7a4, Cond.static yJ6_bitCount_0f7a4, Cond.initialized RJ6, Cond.code yJ6_bitCount_0f7a4 cJ6_bitCount_0f7a4 1 (some .int), Cond.constant RJ6 265 (1431655765), Cond.constant RJ6 266 (858993459), Cond.constant RJ6 267 (252645135), Cond.methodLink RL 42 yX3_beastsOf, Cond.instanceMethod yX3_beastsOf, Cond.selects RX3 yX3_beastsOf yX3_beastsOf, Cond.code yX3_beastsOf cX3_beastsOf 7 (some .int), Cond.methodLink RL 52 yX2_addVariant, Cond.instanceMethod yX2_addVariant, Cond.selects RX2 yX2_addVariant yX2_addVariant, Cond.code yX2_addVariant cX2_addVariant 6 (some .int), Cond.fieldLink RX2 78 "FableIndex$Book" "moral" "[I", Cond.methodLink RX2 81 yX2_turned, Cond.static yX2_turned, Cond.code yX2_turned cX2_turned 2 (some .int)]
def wsL_build_r6 : List Cond := [Cond.methodLink RL 59 yX2_turnPass, Cond.instanceMethod yX2_turnPass, Cond.selects RX2 yX2_turnPass yX2_turnPass, Cond.code yX2_turnPass cX2_turnPass 3 (some .boolean), Cond.classLink RX2 85 "java/lang/IllegalArgumentException", Cond.initialized "java/lang/IllegalArgumentException", Cond.fieldLink RX2 19 "FableIndex" "land" "LFableIndex$Land;", Cond.fieldLink RX2 94 "FableIndex$Land" "ways" "[I", Cond.methodLink RX2 90 yX1_turnWay, Cond.instanceMethod yX1_turnWay, Cond.selects RX1 yX1_turnWay yX1_turnWay, Cond.initialized RX1, Cond.code yX1_turnWay cX1_turnWay 3 none, Cond.fieldLink RX1 9 "FableIndex$Land" "ways" "[I", Cond.methodLink RL 66 yX2_turnMoral, Cond.instanceMethod yX2_turnMoral, Cond.selects RX2 yX2_turnMoral yX2_turnMoral, Cond.code yX2_turnMoral cX2_turnMoral 3 (some .boolean), Cond.fieldLink RX2 97 "FableIndex$Land" "bannedMorals" "[I", Cond.methodLink RL 72 yX2_turnBeast, Cond.instanceMethod yX2_turnBeast, Cond.selects RX2 yX2_turnBeast yX2_turnBeast, Cond.code yX2_turnBeast cX2_turnBeast 3 (some .boolean), Cond.fieldLink RX2 100 "FableIndex$Land" "bannedBeasts" "[I"]
def wsL_build_r7 : List Cond := [Cond.methodLink RL 78 yX3_isBanned, Cond.instanceMethod yX3_isBanned, Cond.selects RX3 yX3_isBanned yX3_isBanned, Cond.code yX3_isBanned cX3_isBanned 5 (some .boolean), Cond.methodLink RL 81 yX2_tell, Cond.instanceMethod yX2_tell, Cond.selects RX2 yX2_tell yX2_tell, Cond.code yX2_tell cX2_tell 3 (some .int), Cond.fieldLink RX2 103 "FableIndex$Land" "told" "[I", Cond.methodLink RX2 108 yX1_bans, Cond.instanceMethod yX1_bans, Cond.selects RX1 yX1_bans yX1_bans, Cond.code yX1_bans cX1_bans 4 (some .boolean), Cond.fieldLink RX1 15 "FableIndex$Land" "bannedMorals" "[I", Cond.fieldLink RX1 38 "FableIndex$Book" "moral" "[I", Cond.fieldLink RX1 18 "FableIndex$Land" "bannedBeasts" "[I", Cond.fieldLink RX1 47 "FableIndex$Book" "beasts" "[I", Cond.methodLink RX2 114 yX1_count, Cond.instanceMethod yX1_count, Cond.selects RX1 yX1_count yX1_count, Cond.code yX1_count cX1_count 4 (some .int), Cond.fieldLink RX1 21 "FableIndex$Land" "told" "[I", Cond.methodLink RL 84 yX3_valleys, Cond.instanceMethod yX3_valleys]
def wsL_build_r8 : List Cond := [Cond.selects RX3 yX3_valleys yX3_valleys, Cond.code yX3_valleys cX3_valleys 7 (some .int), Cond.methodLink RL 87 yX2_forget, Cond.instanceMethod yX2_forget, Cond.selects RX2 yX2_forget yX2_forget, Cond.code yX2_forget cX2_forget 3 (some .int), Cond.methodLink RL 90 yX2_passSeasons, Cond.instanceMethod yX2_passSeasons, Cond.selects RX2 yX2_passSeasons yX2_passSeasons, Cond.code yX2_passSeasons cX2_passSeasons 2 (some .int), Cond.fieldLink RX2 26 "FableIndex" "season" "I", Cond.methodLink RX2 119 yX2_needSeasons, Cond.static yX2_needSeasons, Cond.code yX2_needSeasons cX2_needSeasons 2 none, Cond.methodLink RX2 122 yX1_live, Cond.instanceMethod yX1_live, Cond.selects RX1 yX1_live yX1_live, Cond.code yX1_live cX1_live 5 none, Cond.fieldLink RX1 24 "FableIndex$Land" "allowed" "[I", Cond.methodLink RX1 61 yX1_welcome, Cond.instanceMethod yX1_welcome, Cond.selects RX1 yX1_welcome yX1_welcome, Cond.code yX1_welcome cX1_welcome 5 (some .int), Cond.fieldLink RX1 50 "FableIndex$Book" "count" "I"]
def wsL_build_r9 : List Cond := [Cond.methodLink RX1 53 yX1_bans, Cond.methodLink RX1 65 yX1_hush, Cond.instanceMethod yX1_hush, Cond.selects RX1 yX1_hush yX1_hush, Cond.code yX1_hush cX1_hush 2 none, Cond.fieldLink RX1 27 "FableIndex$Land" "kept" "[I", Cond.fieldLink RX1 30 "FableIndex$Land" "hushed" "I", Cond.methodLink RX1 68 yX1_spread, Cond.instanceMethod yX1_spread, Cond.selects RX1 yX1_spread yX1_spread, Cond.code yX1_spread cX1_spread 5 (some .boolean), Cond.methodLink RX1 72 yX1_arriving, Cond.instanceMethod yX1_arriving, Cond.selects RX1 yX1_arriving yX1_arriving, Cond.code yX1_arriving cX1_arriving 4 (some .int), Cond.methodLink RX1 75 yX1_admitted, Cond.instanceMethod yX1_admitted, Cond.selects RX1 yX1_admitted yX1_admitted, Cond.code yX1_admitted cX1_admitted 7 (some .int), Cond.fieldLink RX1 79 "FableIndex$Book" "variants" "[I", Cond.static yX2_smallestAlone, Cond.code yX2_smallestAlone cX2_smallestAlone 1 (some .int), Cond.methodLink RX2 126 yX0_all, Cond.instanceMethod yX0_all]
def wsL_build_r10 : List Cond := [Cond.selects RX0 yX0_all yX0_all, Cond.code yX0_all cX0_all 1 (some .int), Cond.methodLink RL 93 yX3_behind, Cond.instanceMethod yX3_behind, Cond.selects RX3 yX3_behind yX3_behind, Cond.code yX3_behind cX3_behind 3 (some (.object "FableIndexLaw$Sim")), Cond.methodLink RX3 53 yX3_pass, Cond.instanceMethod yX3_pass, Cond.selects RX3 yX3_pass yX3_pass, Cond.code yX3_pass cX3_pass 7 none, Cond.fieldLink RX3 42 "FableIndexLaw$Sim" "silenced" "I", Cond.fieldLink RX3 39 "FableIndexLaw$Sim" "season" "I", Cond.methodLink RX3 49 yX3_isBanned, Cond.methodLink RL 97 yX3_tellings, Cond.instanceMethod yX3_tellings, Cond.selects RX3 yX3_tellings yX3_tellings, Cond.code yX3_tellings cX3_tellings 3 (some .int), Cond.methodLink RX3 56 yX3_valleys]
def wsL_build : List Cond := .code yL_build cL_build 5 (some (.object "FableIndexLaw$Sim")) :: ((wsL_build_r1 ++ (wsL_build_r2 ++ (wsL_build_r3 ++ (wsL_build_r4 ++ (wsL_build_r5 ++ (wsL_build_r6 ++ (wsL_build_r7 ++ (wsL_build_r8 ++ (wsL_build_r9 ++ wsL_build_r10))))))))) ++ wsX30 ++ wsX20 ++ wsX00 ++ wsX10 ++ (vx_atS RX2 242 "java/lang/IndexOutOfBoundsException" ["java/lang/RuntimeException", "java/lang/Exception"]).filter goodWord ++ (vx_atS RX2 62 "java/lang/IllegalStateException" ["java/lang/RuntimeException", "java/lang/Exception"]).filter goodWord ++ (vx_atS RX2 89 "java/lang/IllegalArgumentException" ["java/lang/RuntimeException", "java/lang/Exception"]).filter goodWord)
def wsL_law0_r1 : List Cond := [Cond.classLink RL 30 RX2, Cond.instantiable RX2 4, Cond.initialized RX2, Cond.classLink RL 117 "[[Z", Cond.arrayClass .boolean, Cond.methodLink RL 110 yX2_init, Cond.instanceMethod yX2_init, Cond.code yX2_init cX2_init 1 none, Cond.methodLink RX2 1 objectInit, Cond.instanceMethod objectInit, Cond.code objectInit ⟨#[0xb1]⟩ 1 none, Cond.classLink RX2 7 RX0, Cond.instantiable RX0 7, Cond.initialized RX0, Cond.fieldLink RX2 10 "FableIndex" "book" "LFableIndex$Book;", Cond.classLink RX2 16 RX1, Cond.instantiable RX1 7, Cond.initialized RX1, Cond.fieldLink RX2 19 "FableIndex" "land" "LFableIndex$Land;", Cond.fieldLink RX2 23 "FableIndex" "trial" "LFableIndex$Land;", Cond.fieldLink RX2 26 "FableIndex" "season" "I", Cond.methodLink RX2 9 yX0_init, Cond.instanceMethod yX0_init, Cond.code yX0_init cX0_init 1 none]
def wsL_law0_r2 : List Cond := [Cond.methodLink RX0 3 objectInit, Cond.fieldLink RX0 9 "FableIndex$Book" "count" "I", Cond.arrayClass .int, Cond.fieldLink RX0 15 "FableIndex$Book" "moral" "[I", Cond.fieldLink RX0 19 "FableIndex$Book" "beasts" "[I", Cond.fieldLink RX0 22 "FableIndex$Book" "home" "[I", Cond.fieldLink RX0 25 "FableIndex$Book" "parent" "[I", Cond.fieldLink RX0 28 "FableIndex$Book" "variants" "[I", Cond.fieldLink RX0 31 "FableIndex$Book" "ancestors" "[I", Cond.methodLink RX2 18 yX1_init, Cond.instanceMethod yX1_init, Cond.code yX1_init cX1_init 1 none, Cond.methodLink RX1 3 objectInit, Cond.fieldLink RX1 9 "FableIndex$Land" "ways" "[I", Cond.fieldLink RX1 15 "FableIndex$Land" "bannedMorals" "[I", Cond.fieldLink RX1 18 "FableIndex$Land" "bannedBeasts" "[I", Cond.fieldLink RX1 21 "FableIndex$Land" "told" "[I", Cond.fieldLink RX1 24 "FableIndex$Land" "allowed" "[I", Cond.fieldLink RX1 27 "FableIndex$Land" "kept" "[I", Cond.fieldLink RX1 30 "FableIndex$Land" "hushed" "I", Cond.methodLink RL 111 yL_build, Cond.static yL_build, Cond.initialized RL, Cond.code yL_build cL_build 5 (some (.object "FableIndexLaw$Sim"))]
def wsL_law0_r3 : List Cond := [Cond.classLink RL 10 RX3, Cond.instantiable RX3 9, Cond.initialized RX3, Cond.instanceMethod yX3_init, Cond.code yX3_init cX3_init 1 none, Cond.methodLink RX3 1 objectInit, Cond.classLink RX3 7 "[I", Cond.fieldLink RX3 9 "FableIndexLaw$Sim" "fables" "[[I", Cond.classLink RX3 15 "[Z", Cond.fieldLink RX3 17 "FableIndexLaw$Sim" "beasts" "[[Z", Cond.classLink RX3 21 "[[Z", Cond.fieldLink RX3 22 "FableIndexLaw$Sim" "told" "[[Z", Cond.fieldLink RX3 25 "FableIndexLaw$Sim" "morals" "[[Z", Cond.fieldLink RX3 28 "FableIndexLaw$Sim" "bans" "[[Z", Cond.fieldLink RX3 31 "FableIndexLaw$Sim" "passes" "[[Z", Cond.methodLink RL 102 yL_cell, Cond.static yL_cell, Cond.code yL_cell cL_cell 2 (some .int), Cond.constant RL 8 (790386105), Cond.methodLink RL 15 yL_below, Cond.static yL_below, Cond.code yL_below cL_below 2 (some .int), Cond.constant RL 7 (2147483647), Cond.methodLink RL 106 yL_act]
def wsL_law0_r4 : List Cond := [Cond.static yL_act, Cond.code yL_act cL_act 13 (some .boolean), Cond.fieldLink RL 9 "FableIndexLaw$Sim" "n" "I", Cond.fieldLink RL 21 "FableIndexLaw$Sim" "fables" "[[I", Cond.fieldLink RL 25 "FableIndexLaw$Sim" "beasts" "[[Z", Cond.methodLink RL 46 ⟨"[Z", "clone", "()Ljava/lang/Object;"⟩, Cond.sameMethod "[Z" "java/lang/Object" "clone" "()Ljava/lang/Object;", Cond.native ⟨"java/lang/Object", "clone", "()Ljava/lang/Object;"⟩, Cond.instanceMethod ⟨"java/lang/Object", "clone", "()Ljava/lang/Object;"⟩, Cond.selects "[Z" ⟨"[Z", "clone", "()Ljava/lang/Object;"⟩ ⟨"java/lang/Object", "clone", "()Ljava/lang/Object;"⟩, Cond.classLink RL 47 "[Z", Cond.fieldLink RL 56 "FableIndexLaw$Sim" "passes" "[[Z", Cond.fieldLink RL 63 "FableIndexLaw$Sim" "morals" "[[Z", Cond.fieldLink RL 69 "FableIndexLaw$Sim" "bans" "[[Z", Cond.fieldLink RL 75 "FableIndexLaw$Sim" "told" "[[Z", Cond.methodLink RL 29 yX2_addFable, Cond.instanceMethod yX2_addFable, Cond.selects RX2 yX2_addFable yX2_addFable, Cond.code yX2_addFable cX2_addFable 4 (some .int), Cond.methodLink RX2 30 yX2_needMoral, Cond.static yX2_needMoral, Cond.code yX2_needMoral cX2_needMoral 1 none, Cond.classLink RX2 238 "java/lang/IndexOutOfBoundsException", Cond.initialized "java/lang/IndexOutOfBoundsException"]
def wsL_law0_r5 : List Cond := [Cond.methodLink RX2 34 yX2_needBeast, Cond.static yX2_needBeast, Cond.code yX2_needBeast cX2_needBeast 1 none, Cond.methodLink RX2 37 yX2_needValley, Cond.static yX2_needValley, Cond.code yX2_needValley cX2_needValley 1 none, Cond.methodLink RX2 40 yX2_needFreePage, Cond.instanceMethod yX2_needFreePage, Cond.selects RX2 yX2_needFreePage yX2_needFreePage, Cond.code yX2_needFreePage cX2_needFreePage 1 none, Cond.classLink RX2 58 "java/lang/IllegalStateException", Cond.initialized "java/lang/IllegalStateException", Cond.fieldLink RX2 146 "FableIndex$Book" "count" "I", Cond.methodLink RX2 43 yX0_write, Cond.instanceMethod yX0_write, Cond.selects RX0 yX0_write yX0_write, Cond.code yX0_write cX0_write 6 (some .int), Cond.methodLink RL 35 yX3_hasVariant, Cond.instanceMethod yX3_hasVariant, Cond.selects RX3 yX3_hasVariant yX3_hasVariant, Cond.code yX3_hasVariant cX3_hasVariant 3 (some .boolean), Cond.fieldLink RX3 35 "FableIndexLaw$Sim" "n" "I", Cond.methodLink RL 39 yX2_addBeast, Cond.instanceMethod yX2_addBeast]
def wsL_law0_r6 : List Cond := [Cond.selects RX2 yX2_addBeast yX2_addBeast, Cond.code yX2_addBeast cX2_addBeast 3 (some .int), Cond.fieldLink RX2 50 "FableIndex$Book" "beasts" "[I", Cond.fieldLink RX2 65 "FableIndex$Book" "variants" "[I", Cond.methodLink RX2 47 yX2_needFable, Cond.instanceMethod yX2_needFable, Cond.selects RX2 yX2_needFable yX2_needFable, Cond.code yX2_needFable cX2_needFable 2 none, Cond.methodLink RX2 54 yX2_has, Cond.static yX2_has, Cond.code yX2_has cX2_has 2 (some .boolean), Cond.methodLink RX2 70 yX2_size, Cond.static yX2_size, Cond.code yX2_size cX2_size 1 (some .int), Cond.methodLink RX2 253 yJ6_bitCount_0f7a4, Cond.static yJ6_bitCount_0f7a4, Cond.initialized RJ6, Cond.code yJ6_bitCount_0f7a4 cJ6_bitCount_0f7a4 1 (some .int), Cond.constant RJ6 265 (1431655765), Cond.constant RJ6 266 (858993459), Cond.constant RJ6 267 (252645135), Cond.methodLink RL 42 yX3_beastsOf, Cond.instanceMethod yX3_beastsOf, Cond.selects RX3 yX3_beastsOf yX3_beastsOf]
def wsL_law0_r7 : List Cond := [Cond.code yX3_beastsOf cX3_beastsOf 7 (some .int), Cond.methodLink RL 52 yX2_addVariant, Cond.instanceMethod yX2_addVariant, Cond.selects RX2 yX2_addVariant yX2_addVariant, Cond.code yX2_addVariant cX2_addVariant 6 (some .int), Cond.fieldLink RX2 78 "FableIndex$Book" "moral" "[I", Cond.methodLink RX2 81 yX2_turned, Cond.static yX2_turned, Cond.code yX2_turned cX2_turned 2 (some .int), Cond.methodLink RL 59 yX2_turnPass, Cond.instanceMethod yX2_turnPass, Cond.selects RX2 yX2_turnPass yX2_turnPass, Cond.code yX2_turnPass cX2_turnPass 3 (some .boolean), Cond.classLink RX2 85 "java/lang/IllegalArgumentException", Cond.initialized "java/lang/IllegalArgumentException", Cond.fieldLink RX2 94 "FableIndex$Land" "ways" "[I", Cond.methodLink RX2 90 yX1_turnWay, Cond.instanceMethod yX1_turnWay, Cond.selects RX1 yX1_turnWay yX1_turnWay, Cond.code yX1_turnWay cX1_turnWay 3 none, Cond.methodLink RL 66 yX2_turnMoral, Cond.instanceMethod yX2_turnMoral, Cond.selects RX2 yX2_turnMoral yX2_turnMoral, Cond.code yX2_turnMoral cX2_turnMoral 3 (some .boolean)]
def wsL_law0_r8 : List Cond := [Cond.fieldLink RX2 97 "FableIndex$Land" "bannedMorals" "[I", Cond.methodLink RL 72 yX2_turnBeast, Cond.instanceMethod yX2_turnBeast, Cond.selects RX2 yX2_turnBeast yX2_turnBeast, Cond.code yX2_turnBeast cX2_turnBeast 3 (some .boolean), Cond.fieldLink RX2 100 "FableIndex$Land" "bannedBeasts" "[I", Cond.methodLink RL 78 yX3_isBanned, Cond.instanceMethod yX3_isBanned, Cond.selects RX3 yX3_isBanned yX3_isBanned, Cond.code yX3_isBanned cX3_isBanned 5 (some .boolean), Cond.methodLink RL 81 yX2_tell, Cond.instanceMethod yX2_tell, Cond.selects RX2 yX2_tell yX2_tell, Cond.code yX2_tell cX2_tell 3 (some .int), Cond.fieldLink RX2 103 "FableIndex$Land" "told" "[I", Cond.methodLink RX2 108 yX1_bans, Cond.instanceMethod yX1_bans, Cond.selects RX1 yX1_bans yX1_bans, Cond.code yX1_bans cX1_bans 4 (some .boolean), Cond.fieldLink RX1 38 "FableIndex$Book" "moral" "[I", Cond.fieldLink RX1 47 "FableIndex$Book" "beasts" "[I", Cond.methodLink RX2 114 yX1_count, Cond.instanceMethod yX1_count, Cond.selects RX1 yX1_count yX1_count]
def wsL_law0_r9 : List Cond := [Cond.code yX1_count cX1_count 4 (some .int), Cond.methodLink RL 84 yX3_valleys, Cond.instanceMethod yX3_valleys, Cond.selects RX3 yX3_valleys yX3_valleys, Cond.code yX3_valleys cX3_valleys 7 (some .int), Cond.methodLink RL 87 yX2_forget, Cond.instanceMethod yX2_forget, Cond.selects RX2 yX2_forget yX2_forget, Cond.code yX2_forget cX2_forget 3 (some .int), Cond.methodLink RL 90 yX2_passSeasons, Cond.instanceMethod yX2_passSeasons, Cond.selects RX2 yX2_passSeasons yX2_passSeasons, Cond.code yX2_passSeasons cX2_passSeasons 2 (some .int), Cond.methodLink RX2 119 yX2_needSeasons, Cond.static yX2_needSeasons, Cond.code yX2_needSeasons cX2_needSeasons 2 none, Cond.methodLink RX2 122 yX1_live, Cond.instanceMethod yX1_live, Cond.selects RX1 yX1_live yX1_live, Cond.code yX1_live cX1_live 5 none, Cond.methodLink RX1 61 yX1_welcome, Cond.instanceMethod yX1_welcome, Cond.selects RX1 yX1_welcome yX1_welcome, Cond.code yX1_welcome cX1_welcome 5 (some .int)]
def wsL_law0_r10 : List Cond := [Cond.fieldLink RX1 50 "FableIndex$Book" "count" "I", Cond.methodLink RX1 53 yX1_bans, Cond.methodLink RX1 65 yX1_hush, Cond.instanceMethod yX1_hush, Cond.selects RX1 yX1_hush yX1_hush, Cond.code yX1_hush cX1_hush 2 none, Cond.methodLink RX1 68 yX1_spread, Cond.instanceMethod yX1_spread, Cond.selects RX1 yX1_spread yX1_spread, Cond.code yX1_spread cX1_spread 5 (some .boolean), Cond.methodLink RX1 72 yX1_arriving, Cond.instanceMethod yX1_arriving, Cond.selects RX1 yX1_arriving yX1_arriving, Cond.code yX1_arriving cX1_arriving 4 (some .int), Cond.methodLink RX1 75 yX1_admitted, Cond.instanceMethod yX1_admitted, Cond.selects RX1 yX1_admitted yX1_admitted, Cond.code yX1_admitted cX1_admitted 7 (some .int), Cond.fieldLink RX1 79 "FableIndex$Book" "variants" "[I", Cond.static yX2_smallestAlone, Cond.code yX2_smallestAlone cX2_smallestAlone 1 (some .int), Cond.methodLink RX2 126 yX0_all, Cond.instanceMethod yX0_all, Cond.selects RX0 yX0_all yX0_all]
def wsL_law0_r11 : List Cond := [Cond.code yX0_all cX0_all 1 (some .int), Cond.methodLink RL 93 yX3_behind, Cond.instanceMethod yX3_behind, Cond.selects RX3 yX3_behind yX3_behind, Cond.code yX3_behind cX3_behind 3 (some (.object "FableIndexLaw$Sim")), Cond.methodLink RX3 53 yX3_pass, Cond.instanceMethod yX3_pass, Cond.selects RX3 yX3_pass yX3_pass, Cond.code yX3_pass cX3_pass 7 none, Cond.fieldLink RX3 42 "FableIndexLaw$Sim" "silenced" "I", Cond.fieldLink RX3 39 "FableIndexLaw$Sim" "season" "I", Cond.methodLink RX3 49 yX3_isBanned, Cond.methodLink RL 97 yX3_tellings, Cond.instanceMethod yX3_tellings, Cond.selects RX3 yX3_tellings yX3_tellings, Cond.code yX3_tellings cX3_tellings 3 (some .int), Cond.methodLink RX3 56 yX3_valleys, Cond.methodLink RL 115 yX2_fables, Cond.instanceMethod yX2_fables, Cond.selects RX2 yX2_fables yX2_fables, Cond.code yX2_fables cX2_fables 1 (some .int), Cond.methodLink RL 118 yX2_isTold, Cond.instanceMethod yX2_isTold, Cond.selects RX2 yX2_isTold yX2_isTold]
def wsL_law0_r12 : List Cond := [Cond.code yX2_isTold cX2_isTold 3 (some .boolean), Cond.methodLink RL 121 yX2_silenced, Cond.instanceMethod yX2_silenced, Cond.selects RX2 yX2_silenced yX2_silenced, Cond.code yX2_silenced cX2_silenced 1 (some .int), Cond.fieldLink RX2 148 "FableIndex$Land" "hushed" "I", Cond.methodLink RL 124 yX3_pass, Cond.methodLink RL 127 yX2_toldIn, Cond.instanceMethod yX2_toldIn, Cond.selects RX2 yX2_toldIn yX2_toldIn, Cond.code yX2_toldIn cX2_toldIn 2 (some .int), Cond.methodLink RL 130 yX2_allowedIn, Cond.instanceMethod yX2_allowedIn, Cond.selects RX2 yX2_allowedIn yX2_allowedIn, Cond.code yX2_allowedIn cX2_allowedIn 2 (some .int), Cond.methodLink RX2 142 yX1_welcome, Cond.methodLink RL 133 yX2_isOpen, Cond.instanceMethod yX2_isOpen, Cond.selects RX2 yX2_isOpen yX2_isOpen, Cond.code yX2_isOpen cX2_isOpen 3 (some .boolean), Cond.methodLink RL 136 yX2_parentOf, Cond.instanceMethod yX2_parentOf, Cond.selects RX2 yX2_parentOf yX2_parentOf, Cond.code yX2_parentOf cX2_parentOf 2 (some .int)]
def wsL_law0_r13 : List Cond := [Cond.fieldLink RX2 133 "FableIndex$Book" "parent" "[I", Cond.methodLink RL 139 yX2_beastsOf, Cond.instanceMethod yX2_beastsOf, Cond.selects RX2 yX2_beastsOf yX2_beastsOf, Cond.code yX2_beastsOf cX2_beastsOf 2 (some .int), Cond.methodLink RL 140 yX2_sharedBeasts, Cond.instanceMethod yX2_sharedBeasts, Cond.selects RX2 yX2_sharedBeasts yX2_sharedBeasts, Cond.code yX2_sharedBeasts cX2_sharedBeasts 3 (some .int), Cond.methodLink RL 143 yX2_moralOf, Cond.instanceMethod yX2_moralOf, Cond.selects RX2 yX2_moralOf yX2_moralOf, Cond.code yX2_moralOf cX2_moralOf 2 (some .int), Cond.methodLink RL 146 yX2_kinship, Cond.instanceMethod yX2_kinship, Cond.selects RX2 yX2_kinship yX2_kinship, Cond.code yX2_kinship cX2_kinship 3 (some .int), Cond.fieldLink RX2 136 "FableIndex$Book" "ancestors" "[I", Cond.methodLink RL 149 yX2_variantsOf, Cond.instanceMethod yX2_variantsOf, Cond.selects RX2 yX2_variantsOf yX2_variantsOf, Cond.code yX2_variantsOf cX2_variantsOf 2 (some .int), Cond.methodLink RL 152 yX2_valleysOf, Cond.instanceMethod yX2_valleysOf]
def wsL_law0_r14 : List Cond := [Cond.selects RX2 yX2_valleysOf yX2_valleysOf, Cond.code yX2_valleysOf cX2_valleysOf 2 (some .int), Cond.methodLink RL 155 yX2_isBanned, Cond.instanceMethod yX2_isBanned, Cond.selects RX2 yX2_isBanned yX2_isBanned, Cond.code yX2_isBanned cX2_isBanned 3 (some .boolean), Cond.methodLink RL 156 yX2_tellings, Cond.instanceMethod yX2_tellings, Cond.selects RX2 yX2_tellings yX2_tellings, Cond.code yX2_tellings cX2_tellings 1 (some .int), Cond.methodLink RL 157 yX2_meanBeasts, Cond.instanceMethod yX2_meanBeasts, Cond.selects RX2 yX2_meanBeasts yX2_meanBeasts, Cond.code yX2_meanBeasts cX2_meanBeasts 3 (some .double), Cond.methodLink RL 161 yX2_fablesWithBeast, Cond.instanceMethod yX2_fablesWithBeast, Cond.selects RX2 yX2_fablesWithBeast yX2_fablesWithBeast, Cond.code yX2_fablesWithBeast cX2_fablesWithBeast 2 (some .int), Cond.methodLink RX2 154 yX0_withBeast, Cond.instanceMethod yX0_withBeast, Cond.selects RX0 yX0_withBeast yX0_withBeast, Cond.code yX0_withBeast cX0_withBeast 4 (some .int), Cond.methodLink RL 164 yX2_fablesWithMoral, Cond.instanceMethod yX2_fablesWithMoral]
def wsL_law0_r15 : List Cond := [Cond.selects RX2 yX2_fablesWithMoral yX2_fablesWithMoral, Cond.code yX2_fablesWithMoral cX2_fablesWithMoral 2 (some .int), Cond.methodLink RX2 151 yX0_withMoral, Cond.instanceMethod yX0_withMoral, Cond.selects RX0 yX0_withMoral yX0_withMoral, Cond.code yX0_withMoral cX0_withMoral 4 (some .int), Cond.methodLink RL 167 yX2_favouriteMoral, Cond.instanceMethod yX2_favouriteMoral, Cond.selects RX2 yX2_favouriteMoral yX2_favouriteMoral, Cond.code yX2_favouriteMoral cX2_favouriteMoral 5 (some .int), Cond.methodLink RL 170 yX2_favouriteBeast, Cond.instanceMethod yX2_favouriteBeast, Cond.selects RX2 yX2_favouriteBeast yX2_favouriteBeast, Cond.code yX2_favouriteBeast cX2_favouriteBeast 5 (some .int), Cond.methodLink RL 173 yX3_isSame, Cond.instanceMethod yX3_isSame, Cond.selects RX3 yX3_isSame yX3_isSame, Cond.code yX3_isSame cX3_isSame 12 (some .boolean), Cond.methodLink RX3 63 yX2_fables, Cond.methodLink RX3 68 yX2_season, Cond.instanceMethod yX2_season, Cond.selects RX2 yX2_season yX2_season, Cond.code yX2_season cX2_season 1 (some .int), Cond.methodLink RX3 70 yX2_tellings]
def wsL_law0_r16 : List Cond := [Cond.methodLink RX3 73 yX3_tellings, Cond.methodLink RX3 74 yX2_silenced, Cond.methodLink RX3 76 yX2_favouriteMoral, Cond.methodLink RX3 79 yX3_favourite, Cond.instanceMethod yX3_favourite, Cond.selects RX3 yX3_favourite yX3_favourite, Cond.code yX3_favourite cX3_favourite 5 (some .int), Cond.methodLink RX3 60 yX3_loved, Cond.instanceMethod yX3_loved, Cond.selects RX3 yX3_loved yX3_loved, Cond.code yX3_loved cX3_loved 4 (some .int), Cond.methodLink RX3 83 yX2_favouriteBeast, Cond.methodLink RX3 86 yX2_moralOf, Cond.methodLink RX3 89 yX2_homeOf, Cond.instanceMethod yX2_homeOf, Cond.selects RX2 yX2_homeOf yX2_homeOf, Cond.code yX2_homeOf cX2_homeOf 2 (some .int), Cond.fieldLink RX2 130 "FableIndex$Book" "home" "[I", Cond.methodLink RX3 92 yX2_parentOf, Cond.methodLink RX3 95 yX2_beastsOf, Cond.methodLink RX3 98 yX3_beastsOf, Cond.methodLink RX3 99 yX2_valleysOf, Cond.methodLink RX3 102 yX2_variantsOf, Cond.methodLink RX3 105 yX2_hasBeast]
def wsL_law0_r17 : List Cond := [Cond.instanceMethod yX2_hasBeast, Cond.selects RX2 yX2_hasBeast yX2_hasBeast, Cond.code yX2_hasBeast cX2_hasBeast 3 (some .boolean), Cond.methodLink RX3 108 yX2_isTold, Cond.methodLink RX3 111 yX2_isBanned, Cond.methodLink RX3 112 yX2_fablesWithMoral, Cond.methodLink RX3 115 yX2_fablesWithBeast, Cond.methodLink RX3 118 yX2_toldIn, Cond.methodLink RX3 121 yX2_allowedIn, Cond.methodLink RX3 124 yX2_bansOf, Cond.instanceMethod yX2_bansOf, Cond.selects RX2 yX2_bansOf yX2_bansOf, Cond.code yX2_bansOf cX2_bansOf 2 (some .int), Cond.methodLink RX3 127 yX2_isOpen, Cond.methodLink RX3 130 yX2_meanBeasts]
def wsL_law0 : List Cond := (wsL_law0_r1 ++ (wsL_law0_r2 ++ (wsL_law0_r3 ++ (wsL_law0_r4 ++ (wsL_law0_r5 ++ (wsL_law0_r6 ++ (wsL_law0_r7 ++ (wsL_law0_r8 ++ (wsL_law0_r9 ++ (wsL_law0_r10 ++ (wsL_law0_r11 ++ (wsL_law0_r12 ++ (wsL_law0_r13 ++ (wsL_law0_r14 ++ (wsL_law0_r15 ++ (wsL_law0_r16 ++ wsL_law0_r17)))))))))))))))) ++ wsX20 ++ wsX00 ++ wsX10 ++ wsX30 ++ ([] : List Cond)
def wsL_law : List Cond := wsL_law0 ++ (vx_atS RX2 242 "java/lang/IndexOutOfBoundsException" ["java/lang/RuntimeException", "java/lang/Exception"]).filter goodWord ++ (vx_atS RX2 62 "java/lang/IllegalStateException" ["java/lang/RuntimeException", "java/lang/Exception"]).filter goodWord ++ (vx_atS RX2 89 "java/lang/IllegalArgumentException" ["java/lang/RuntimeException", "java/lang/Exception"]).filter goodWord
abbrev vwCl : List vw_C := [(RX0, TX0, 7), (RX1, TX1, 7), (RX2, TX2, 4), (RX3, TX3, 9)]
end
section
theorem dX0_init_0 : decode cX0_init 0 = .ok (.aload_n 0, 1) := by decide +kernel
theorem dX0_init_1 : decode cX0_init 1 = .ok (.invokespecial 3, 3) := by decide +kernel
theorem dX0_init_4 : decode cX0_init 4 = .ok (.aload_n 0, 1) := by decide +kernel
theorem dX0_init_5 : decode cX0_init 5 = .ok (.iconst 0, 1) := by decide +kernel
theorem dX0_init_6 : decode cX0_init 6 = .ok (.putfield 9, 3) := by decide +kernel
theorem dX0_init_9 : decode cX0_init 9 = .ok (.aload_n 0, 1) := by decide +kernel
theorem dX0_init_10 : decode cX0_init 10 = .ok (.bipush 20, 2) := by decide +kernel
theorem dX0_init_12 : decode cX0_init 12 = .ok (.newarray .int, 2) := by decide +kernel
theorem dX0_init_14 : decode cX0_init 14 = .ok (.putfield 15, 3) := by decide +kernel
theorem dX0_init_17 : decode cX0_init 17 = .ok (.aload_n 0, 1) := by decide +kernel
theorem dX0_init_18 : decode cX0_init 18 = .ok (.bipush 20, 2) := by decide +kernel
theorem dX0_init_20 : decode cX0_init 20 = .ok (.newarray .int, 2) := by decide +kernel
theorem dX0_init_22 : decode cX0_init 22 = .ok (.putfield 19, 3) := by decide +kernel
theorem dX0_init_25 : decode cX0_init 25 = .ok (.aload_n 0, 1) := by decide +kernel
theorem dX0_init_26 : decode cX0_init 26 = .ok (.bipush 20, 2) := by decide +kernel
theorem dX0_init_28 : decode cX0_init 28 = .ok (.newarray .int, 2) := by decide +kernel
theorem dX0_init_30 : decode cX0_init 30 = .ok (.putfield 22, 3) := by decide +kernel
theorem dX0_init_33 : decode cX0_init 33 = .ok (.aload_n 0, 1) := by decide +kernel
theorem dX0_init_34 : decode cX0_init 34 = .ok (.bipush 20, 2) := by decide +kernel
theorem dX0_init_36 : decode cX0_init 36 = .ok (.newarray .int, 2) := by decide +kernel
theorem dX0_init_38 : decode cX0_init 38 = .ok (.putfield 25, 3) := by decide +kernel
theorem dX0_init_41 : decode cX0_init 41 = .ok (.aload_n 0, 1) := by decide +kernel
theorem dX0_init_42 : decode cX0_init 42 = .ok (.bipush 20, 2) := by decide +kernel
theorem dX0_init_44 : decode cX0_init 44 = .ok (.newarray .int, 2) := by decide +kernel
theorem dX0_init_46 : decode cX0_init 46 = .ok (.putfield 28, 3) := by decide +kernel
theorem dX0_init_49 : decode cX0_init 49 = .ok (.aload_n 0, 1) := by decide +kernel
theorem dX0_init_50 : decode cX0_init 50 = .ok (.bipush 20, 2) := by decide +kernel
theorem dX0_init_52 : decode cX0_init 52 = .ok (.newarray .int, 2) := by decide +kernel
theorem dX0_init_54 : decode cX0_init 54 = .ok (.putfield 31, 3) := by decide +kernel
theorem dX0_init_57 : decode cX0_init 57 = .ok (.return_, 1) := by decide +kernel
theorem dX0_write_0 : decode cX0_write 0 = .ok (.aload_n 0, 1) := by decide +kernel
theorem dX0_write_1 : decode cX0_write 1 = .ok (.getfield 9, 3) := by decide +kernel
theorem dX0_write_4 : decode cX0_write 4 = .ok (.istore 5, 2) := by decide +kernel
theorem dX0_write_6 : decode cX0_write 6 = .ok (.aload_n 0, 1) := by decide +kernel
theorem dX0_write_7 : decode cX0_write 7 = .ok (.getfield 15, 3) := by decide +kernel
theorem dX0_write_10 : decode cX0_write 10 = .ok (.iload 5, 2) := by decide +kernel
theorem dX0_write_12 : decode cX0_write 12 = .ok (.iload_n 1, 1) := by decide +kernel
theorem dX0_write_13 : decode cX0_write 13 = .ok (.iastore, 1) := by decide +kernel
theorem dX0_write_14 : decode cX0_write 14 = .ok (.aload_n 0, 1) := by decide +kernel
theorem dX0_write_15 : decode cX0_write 15 = .ok (.getfield 19, 3) := by decide +kernel
theorem dX0_write_18 : decode cX0_write 18 = .ok (.iload 5, 2) := by decide +kernel
theorem dX0_write_20 : decode cX0_write 20 = .ok (.iload_n 2, 1) := by decide +kernel
theorem dX0_write_21 : decode cX0_write 21 = .ok (.iastore, 1) := by decide +kernel
theorem dX0_write_22 : decode cX0_write 22 = .ok (.aload_n 0, 1) := by decide +kernel
theorem dX0_write_23 : decode cX0_write 23 = .ok (.getfield 22, 3) := by decide +kernel
theorem dX0_write_26 : decode cX0_write 26 = .ok (.iload 5, 2) := by decide +kernel
theorem dX0_write_28 : decode cX0_write 28 = .ok (.iload_n 3, 1) := by decide +kernel
theorem dX0_write_29 : decode cX0_write 29 = .ok (.iastore, 1) := by decide +kernel
theorem dX0_write_30 : decode cX0_write 30 = .ok (.aload_n 0, 1) := by decide +kernel
theorem dX0_write_31 : decode cX0_write 31 = .ok (.getfield 25, 3) := by decide +kernel
theorem dX0_write_34 : decode cX0_write 34 = .ok (.iload 5, 2) := by decide +kernel
theorem dX0_write_36 : decode cX0_write 36 = .ok (.iload 4, 2) := by decide +kernel
theorem dX0_write_38 : decode cX0_write 38 = .ok (.iastore, 1) := by decide +kernel
theorem dX0_write_39 : decode cX0_write 39 = .ok (.aload_n 0, 1) := by decide +kernel
theorem dX0_write_40 : decode cX0_write 40 = .ok (.getfield 28, 3) := by decide +kernel
theorem dX0_write_43 : decode cX0_write 43 = .ok (.iload 5, 2) := by decide +kernel
theorem dX0_write_45 : decode cX0_write 45 = .ok (.iconst 0, 1) := by decide +kernel
theorem dX0_write_46 : decode cX0_write 46 = .ok (.iastore, 1) := by decide +kernel
theorem dX0_write_47 : decode cX0_write 47 = .ok (.aload_n 0, 1) := by decide +kernel
theorem dX0_write_48 : decode cX0_write 48 = .ok (.getfield 31, 3) := by decide +kernel
theorem dX0_write_51 : decode cX0_write 51 = .ok (.iload 5, 2) := by decide +kernel
theorem dX0_write_53 : decode cX0_write 53 = .ok (.iconst 1, 1) := by decide +kernel
theorem dX0_write_54 : decode cX0_write 54 = .ok (.iload 5, 2) := by decide +kernel
theorem dX0_write_56 : decode cX0_write 56 = .ok (.ishl, 1) := by decide +kernel
theorem dX0_write_57 : decode cX0_write 57 = .ok (.iastore, 1) := by decide +kernel
theorem dX0_write_58 : decode cX0_write 58 = .ok (.iload 4, 2) := by decide +kernel
theorem dX0_write_60 : decode cX0_write 60 = .ok (.ifCond .lt 34, 3) := by decide +kernel
theorem dX0_write_63 : decode cX0_write 63 = .ok (.aload_n 0, 1) := by decide +kernel
theorem dX0_write_64 : decode cX0_write 64 = .ok (.getfield 28, 3) := by decide +kernel
theorem dX0_write_67 : decode cX0_write 67 = .ok (.iload 4, 2) := by decide +kernel
theorem dX0_write_69 : decode cX0_write 69 = .ok (.dup2, 1) := by decide +kernel
theorem dX0_write_70 : decode cX0_write 70 = .ok (.iaload, 1) := by decide +kernel
theorem dX0_write_71 : decode cX0_write 71 = .ok (.iconst 1, 1) := by decide +kernel
theorem dX0_write_72 : decode cX0_write 72 = .ok (.iload 5, 2) := by decide +kernel
theorem dX0_write_74 : decode cX0_write 74 = .ok (.ishl, 1) := by decide +kernel
theorem dX0_write_75 : decode cX0_write 75 = .ok (.ior, 1) := by decide +kernel
theorem dX0_write_76 : decode cX0_write 76 = .ok (.iastore, 1) := by decide +kernel
theorem dX0_write_77 : decode cX0_write 77 = .ok (.aload_n 0, 1) := by decide +kernel
theorem dX0_write_78 : decode cX0_write 78 = .ok (.getfield 31, 3) := by decide +kernel
theorem dX0_write_81 : decode cX0_write 81 = .ok (.iload 5, 2) := by decide +kernel
theorem dX0_write_83 : decode cX0_write 83 = .ok (.dup2, 1) := by decide +kernel
theorem dX0_write_84 : decode cX0_write 84 = .ok (.iaload, 1) := by decide +kernel
theorem dX0_write_85 : decode cX0_write 85 = .ok (.aload_n 0, 1) := by decide +kernel
theorem dX0_write_86 : decode cX0_write 86 = .ok (.getfield 31, 3) := by decide +kernel
theorem dX0_write_89 : decode cX0_write 89 = .ok (.iload 4, 2) := by decide +kernel
theorem dX0_write_91 : decode cX0_write 91 = .ok (.iaload, 1) := by decide +kernel
theorem dX0_write_92 : decode cX0_write 92 = .ok (.ior, 1) := by decide +kernel
theorem dX0_write_93 : decode cX0_write 93 = .ok (.iastore, 1) := by decide +kernel
theorem dX0_write_94 : decode cX0_write 94 = .ok (.aload_n 0, 1) := by decide +kernel
theorem dX0_write_95 : decode cX0_write 95 = .ok (.dup, 1) := by decide +kernel
theorem dX0_write_96 : decode cX0_write 96 = .ok (.getfield 9, 3) := by decide +kernel
theorem dX0_write_99 : decode cX0_write 99 = .ok (.iconst 1, 1) := by decide +kernel
theorem dX0_write_100 : decode cX0_write 100 = .ok (.iadd, 1) := by decide +kernel
theorem dX0_write_101 : decode cX0_write 101 = .ok (.putfield 9, 3) := by decide +kernel
theorem dX0_write_104 : decode cX0_write 104 = .ok (.iload 5, 2) := by decide +kernel
theorem dX0_write_106 : decode cX0_write 106 = .ok (.ireturn, 1) := by decide +kernel
theorem dX0_all_0 : decode cX0_all 0 = .ok (.iconst 1, 1) := by decide +kernel
theorem dX0_all_1 : decode cX0_all 1 = .ok (.aload_n 0, 1) := by decide +kernel
theorem dX0_all_2 : decode cX0_all 2 = .ok (.getfield 9, 3) := by decide +kernel
theorem dX0_all_5 : decode cX0_all 5 = .ok (.ishl, 1) := by decide +kernel
theorem dX0_all_6 : decode cX0_all 6 = .ok (.iconst 1, 1) := by decide +kernel
theorem dX0_all_7 : decode cX0_all 7 = .ok (.isub, 1) := by decide +kernel
theorem dX0_all_8 : decode cX0_all 8 = .ok (.ireturn, 1) := by decide +kernel
theorem dX0_withMoral_0 : decode cX0_withMoral 0 = .ok (.iconst 0, 1) := by decide +kernel
theorem dX0_withMoral_1 : decode cX0_withMoral 1 = .ok (.istore_n 2, 1) := by decide +kernel
theorem dX0_withMoral_2 : decode cX0_withMoral 2 = .ok (.iconst 0, 1) := by decide +kernel
theorem dX0_withMoral_3 : decode cX0_withMoral 3 = .ok (.istore_n 3, 1) := by decide +kernel
theorem dX0_withMoral_4 : decode cX0_withMoral 4 = .ok (.iload_n 3, 1) := by decide +kernel
theorem dX0_withMoral_5 : decode cX0_withMoral 5 = .ok (.aload_n 0, 1) := by decide +kernel
theorem dX0_withMoral_6 : decode cX0_withMoral 6 = .ok (.getfield 9, 3) := by decide +kernel
theorem dX0_withMoral_9 : decode cX0_withMoral 9 = .ok (.if_icmp .ge 25, 3) := by decide +kernel
theorem dX0_withMoral_12 : decode cX0_withMoral 12 = .ok (.aload_n 0, 1) := by decide +kernel
theorem dX0_withMoral_13 : decode cX0_withMoral 13 = .ok (.getfield 15, 3) := by decide +kernel
theorem dX0_withMoral_16 : decode cX0_withMoral 16 = .ok (.iload_n 3, 1) := by decide +kernel
theorem dX0_withMoral_17 : decode cX0_withMoral 17 = .ok (.iaload, 1) := by decide +kernel
theorem dX0_withMoral_18 : decode cX0_withMoral 18 = .ok (.iload_n 1, 1) := by decide +kernel
theorem dX0_withMoral_19 : decode cX0_withMoral 19 = .ok (.if_icmp .ne 9, 3) := by decide +kernel
theorem dX0_withMoral_22 : decode cX0_withMoral 22 = .ok (.iload_n 2, 1) := by decide +kernel
theorem dX0_withMoral_23 : decode cX0_withMoral 23 = .ok (.iconst 1, 1) := by decide +kernel
theorem dX0_withMoral_24 : decode cX0_withMoral 24 = .ok (.iload_n 3, 1) := by decide +kernel
theorem dX0_withMoral_25 : decode cX0_withMoral 25 = .ok (.ishl, 1) := by decide +kernel
theorem dX0_withMoral_26 : decode cX0_withMoral 26 = .ok (.ior, 1) := by decide +kernel
theorem dX0_withMoral_27 : decode cX0_withMoral 27 = .ok (.istore_n 2, 1) := by decide +kernel
theorem dX0_withMoral_28 : decode cX0_withMoral 28 = .ok (.iinc 3 1, 3) := by decide +kernel
theorem dX0_withMoral_31 : decode cX0_withMoral 31 = .ok (.goto (-27), 3) := by decide +kernel
theorem dX0_withMoral_34 : decode cX0_withMoral 34 = .ok (.iload_n 2, 1) := by decide +kernel
theorem dX0_withMoral_35 : decode cX0_withMoral 35 = .ok (.ireturn, 1) := by decide +kernel
set_option maxRecDepth 20000 in
theorem ggX0_withBeast_X2_has : GoodIn wsX0_withBeast wsX2_has := goodIn_r _ [5] (by decide +kernel) (by decide +kernel)
set_option maxRecDepth 20000 in
theorem gX0_withBeast_X2_has_n34 : GoodIn wsX0_withBeast (wsX2_has) := ggX0_withBeast_X2_has
theorem dX0_withBeast_0 : decode cX0_withBeast 0 = .ok (.iconst 0, 1) := by decide +kernel
theorem dX0_withBeast_1 : decode cX0_withBeast 1 = .ok (.istore_n 2, 1) := by decide +kernel
theorem dX0_withBeast_2 : decode cX0_withBeast 2 = .ok (.iconst 0, 1) := by decide +kernel
theorem dX0_withBeast_3 : decode cX0_withBeast 3 = .ok (.istore_n 3, 1) := by decide +kernel
theorem dX0_withBeast_4 : decode cX0_withBeast 4 = .ok (.iload_n 3, 1) := by decide +kernel
theorem dX0_withBeast_5 : decode cX0_withBeast 5 = .ok (.aload_n 0, 1) := by decide +kernel
theorem dX0_withBeast_6 : decode cX0_withBeast 6 = .ok (.getfield 9, 3) := by decide +kernel
theorem dX0_withBeast_9 : decode cX0_withBeast 9 = .ok (.if_icmp .ge 28, 3) := by decide +kernel
theorem dX0_withBeast_12 : decode cX0_withBeast 12 = .ok (.aload_n 0, 1) := by decide +kernel
theorem dX0_withBeast_13 : decode cX0_withBeast 13 = .ok (.getfield 19, 3) := by decide +kernel
theorem dX0_withBeast_16 : decode cX0_withBeast 16 = .ok (.iload_n 3, 1) := by decide +kernel
theorem dX0_withBeast_17 : decode cX0_withBeast 17 = .ok (.iaload, 1) := by decide +kernel
theorem dX0_withBeast_18 : decode cX0_withBeast 18 = .ok (.iload_n 1, 1) := by decide +kernel
theorem dX0_withBeast_19 : decode cX0_withBeast 19 = .ok (.invokestatic 34, 3) := by decide +kernel
theorem dX0_withBeast_22 : decode cX0_withBeast 22 = .ok (.ifCond .eq 9, 3) := by decide +kernel
theorem dX0_withBeast_25 : decode cX0_withBeast 25 = .ok (.iload_n 2, 1) := by decide +kernel
theorem dX0_withBeast_26 : decode cX0_withBeast 26 = .ok (.iconst 1, 1) := by decide +kernel
theorem dX0_withBeast_27 : decode cX0_withBeast 27 = .ok (.iload_n 3, 1) := by decide +kernel
theorem dX0_withBeast_28 : decode cX0_withBeast 28 = .ok (.ishl, 1) := by decide +kernel
theorem dX0_withBeast_29 : decode cX0_withBeast 29 = .ok (.ior, 1) := by decide +kernel
theorem dX0_withBeast_30 : decode cX0_withBeast 30 = .ok (.istore_n 2, 1) := by decide +kernel
theorem dX0_withBeast_31 : decode cX0_withBeast 31 = .ok (.iinc 3 1, 3) := by decide +kernel
theorem dX0_withBeast_34 : decode cX0_withBeast 34 = .ok (.goto (-30), 3) := by decide +kernel
theorem dX0_withBeast_37 : decode cX0_withBeast 37 = .ok (.iload_n 2, 1) := by decide +kernel
theorem dX0_withBeast_38 : decode cX0_withBeast 38 = .ok (.ireturn, 1) := by decide +kernel
theorem dX1_init_0 : decode cX1_init 0 = .ok (.aload_n 0, 1) := by decide +kernel
theorem dX1_init_1 : decode cX1_init 1 = .ok (.invokespecial 3, 3) := by decide +kernel
theorem dX1_init_4 : decode cX1_init 4 = .ok (.aload_n 0, 1) := by decide +kernel
theorem dX1_init_5 : decode cX1_init 5 = .ok (.bipush 6, 2) := by decide +kernel
theorem dX1_init_7 : decode cX1_init 7 = .ok (.newarray .int, 2) := by decide +kernel
theorem dX1_init_9 : decode cX1_init 9 = .ok (.putfield 9, 3) := by decide +kernel
theorem dX1_init_12 : decode cX1_init 12 = .ok (.aload_n 0, 1) := by decide +kernel
theorem dX1_init_13 : decode cX1_init 13 = .ok (.bipush 6, 2) := by decide +kernel
theorem dX1_init_15 : decode cX1_init 15 = .ok (.newarray .int, 2) := by decide +kernel
theorem dX1_init_17 : decode cX1_init 17 = .ok (.putfield 15, 3) := by decide +kernel
theorem dX1_init_20 : decode cX1_init 20 = .ok (.aload_n 0, 1) := by decide +kernel
theorem dX1_init_21 : decode cX1_init 21 = .ok (.bipush 6, 2) := by decide +kernel
theorem dX1_init_23 : decode cX1_init 23 = .ok (.newarray .int, 2) := by decide +kernel
theorem dX1_init_25 : decode cX1_init 25 = .ok (.putfield 18, 3) := by decide +kernel
theorem dX1_init_28 : decode cX1_init 28 = .ok (.aload_n 0, 1) := by decide +kernel
theorem dX1_init_29 : decode cX1_init 29 = .ok (.bipush 6, 2) := by decide +kernel
theorem dX1_init_31 : decode cX1_init 31 = .ok (.newarray .int, 2) := by decide +kernel
theorem dX1_init_33 : decode cX1_init 33 = .ok (.putfield 21, 3) := by decide +kernel
theorem dX1_init_36 : decode cX1_init 36 = .ok (.aload_n 0, 1) := by decide +kernel
theorem dX1_init_37 : decode cX1_init 37 = .ok (.bipush 6, 2) := by decide +kernel
theorem dX1_init_39 : decode cX1_init 39 = .ok (.newarray .int, 2) := by decide +kernel
theorem dX1_init_41 : decode cX1_init 41 = .ok (.putfield 24, 3) := by decide +kernel
theorem dX1_init_44 : decode cX1_init 44 = .ok (.aload_n 0, 1) := by decide +kernel
theorem dX1_init_45 : decode cX1_init 45 = .ok (.bipush 6, 2) := by decide +kernel
theorem dX1_init_47 : decode cX1_init 47 = .ok (.newarray .int, 2) := by decide +kernel
theorem dX1_init_49 : decode cX1_init 49 = .ok (.putfield 27, 3) := by decide +kernel
theorem dX1_init_52 : decode cX1_init 52 = .ok (.aload_n 0, 1) := by decide +kernel
theorem dX1_init_53 : decode cX1_init 53 = .ok (.iconst 0, 1) := by decide +kernel
theorem dX1_init_54 : decode cX1_init 54 = .ok (.putfield 30, 3) := by decide +kernel
theorem dX1_init_57 : decode cX1_init 57 = .ok (.return_, 1) := by decide +kernel
set_option maxRecDepth 20000 in
theorem ggX1_turnWay_X2_turned : GoodIn wsX1_turnWay wsX2_turned := goodIn_r _ [4] (by decide +kernel) (by decide +kernel)
set_option maxRecDepth 20000 in
theorem gX1_turnWay_X2_turned_n34 : GoodIn wsX1_turnWay (wsX2_turned) := ggX1_turnWay_X2_turned
theorem dX1_turnWay_0 : decode cX1_turnWay 0 = .ok (.aload_n 0, 1) := by decide +kernel
theorem dX1_turnWay_1 : decode cX1_turnWay 1 = .ok (.getfield 9, 3) := by decide +kernel
theorem dX1_turnWay_4 : decode cX1_turnWay 4 = .ok (.iload_n 1, 1) := by decide +kernel
theorem dX1_turnWay_5 : decode cX1_turnWay 5 = .ok (.aload_n 0, 1) := by decide +kernel
theorem dX1_turnWay_6 : decode cX1_turnWay 6 = .ok (.getfield 9, 3) := by decide +kernel
theorem dX1_turnWay_9 : decode cX1_turnWay 9 = .ok (.iload_n 1, 1) := by decide +kernel
theorem dX1_turnWay_10 : decode cX1_turnWay 10 = .ok (.iaload, 1) := by decide +kernel
theorem dX1_turnWay_11 : decode cX1_turnWay 11 = .ok (.iload_n 2, 1) := by decide +kernel
theorem dX1_turnWay_12 : decode cX1_turnWay 12 = .ok (.invokestatic 34, 3) := by decide +kernel
theorem dX1_turnWay_15 : decode cX1_turnWay 15 = .ok (.iastore, 1) := by decide +kernel
theorem dX1_turnWay_16 : decode cX1_turnWay 16 = .ok (.aload_n 0, 1) := by decide +kernel
theorem dX1_turnWay_17 : decode cX1_turnWay 17 = .ok (.getfield 9, 3) := by decide +kernel
theorem dX1_turnWay_20 : decode cX1_turnWay 20 = .ok (.iload_n 2, 1) := by decide +kernel
theorem dX1_turnWay_21 : decode cX1_turnWay 21 = .ok (.aload_n 0, 1) := by decide +kernel
theorem dX1_turnWay_22 : decode cX1_turnWay 22 = .ok (.getfield 9, 3) := by decide +kernel
theorem dX1_turnWay_25 : decode cX1_turnWay 25 = .ok (.iload_n 2, 1) := by decide +kernel
theorem dX1_turnWay_26 : decode cX1_turnWay 26 = .ok (.iaload, 1) := by decide +kernel
theorem dX1_turnWay_27 : decode cX1_turnWay 27 = .ok (.iload_n 1, 1) := by decide +kernel
theorem dX1_turnWay_28 : decode cX1_turnWay 28 = .ok (.invokestatic 34, 3) := by decide +kernel
theorem dX1_turnWay_31 : decode cX1_turnWay 31 = .ok (.iastore, 1) := by decide +kernel
theorem dX1_turnWay_32 : decode cX1_turnWay 32 = .ok (.return_, 1) := by decide +kernel
set_option maxRecDepth 20000 in
theorem ggX1_bans_X2_has : GoodIn wsX1_bans wsX2_has := goodIn_r _ [7] (by decide +kernel) (by decide +kernel)
set_option maxRecDepth 20000 in
theorem gX1_bans_X2_has_n43 : GoodIn wsX1_bans (wsX2_has) := ggX1_bans_X2_has
theorem dX1_bans_0 : decode cX1_bans 0 = .ok (.aload_n 0, 1) := by decide +kernel
theorem dX1_bans_1 : decode cX1_bans 1 = .ok (.getfield 15, 3) := by decide +kernel
theorem dX1_bans_4 : decode cX1_bans 4 = .ok (.iload_n 3, 1) := by decide +kernel
theorem dX1_bans_5 : decode cX1_bans 5 = .ok (.iaload, 1) := by decide +kernel
theorem dX1_bans_6 : decode cX1_bans 6 = .ok (.aload_n 1, 1) := by decide +kernel
theorem dX1_bans_7 : decode cX1_bans 7 = .ok (.getfield 38, 3) := by decide +kernel
theorem dX1_bans_10 : decode cX1_bans 10 = .ok (.iload_n 2, 1) := by decide +kernel
theorem dX1_bans_11 : decode cX1_bans 11 = .ok (.iaload, 1) := by decide +kernel
theorem dX1_bans_12 : decode cX1_bans 12 = .ok (.invokestatic 43, 3) := by decide +kernel
theorem dX1_bans_15 : decode cX1_bans 15 = .ok (.ifCond .ne 19, 3) := by decide +kernel
theorem dX1_bans_18 : decode cX1_bans 18 = .ok (.aload_n 0, 1) := by decide +kernel
theorem dX1_bans_19 : decode cX1_bans 19 = .ok (.getfield 18, 3) := by decide +kernel
theorem dX1_bans_22 : decode cX1_bans 22 = .ok (.iload_n 3, 1) := by decide +kernel
theorem dX1_bans_23 : decode cX1_bans 23 = .ok (.iaload, 1) := by decide +kernel
theorem dX1_bans_24 : decode cX1_bans 24 = .ok (.aload_n 1, 1) := by decide +kernel
theorem dX1_bans_25 : decode cX1_bans 25 = .ok (.getfield 47, 3) := by decide +kernel
theorem dX1_bans_28 : decode cX1_bans 28 = .ok (.iload_n 2, 1) := by decide +kernel
theorem dX1_bans_29 : decode cX1_bans 29 = .ok (.iaload, 1) := by decide +kernel
theorem dX1_bans_30 : decode cX1_bans 30 = .ok (.iand, 1) := by decide +kernel
theorem dX1_bans_31 : decode cX1_bans 31 = .ok (.ifCond .eq 7, 3) := by decide +kernel
theorem dX1_bans_34 : decode cX1_bans 34 = .ok (.iconst 1, 1) := by decide +kernel
theorem dX1_bans_35 : decode cX1_bans 35 = .ok (.goto 4, 3) := by decide +kernel
theorem dX1_bans_38 : decode cX1_bans 38 = .ok (.iconst 0, 1) := by decide +kernel
theorem dX1_bans_39 : decode cX1_bans 39 = .ok (.ireturn, 1) := by decide +kernel
set_option maxRecDepth 20000 in
theorem ggX1_welcome_X1_bans : GoodIn wsX1_welcome wsX1_bans := goodIn_r _ [6, 7, 8, 9, 10, 11, 12, 13, 21, 22, 23, 24, 25, 26, 27, 14, 15, 16, 17, 18, 19, 20] (by decide +kernel) (by decide +kernel)
set_option maxRecDepth 20000 in
theorem gX1_welcome_X1_bans : GoodIn wsX1_welcome (wsV RX1 53 RX1 yX1_bans wsX1_bans) := goodIn_app (goodIn_of _ (by decide +kernel)) ggX1_welcome_X1_bans
theorem dX1_welcome_0 : decode cX1_welcome 0 = .ok (.iconst 0, 1) := by decide +kernel
theorem dX1_welcome_1 : decode cX1_welcome 1 = .ok (.istore_n 3, 1) := by decide +kernel
theorem dX1_welcome_2 : decode cX1_welcome 2 = .ok (.iconst 0, 1) := by decide +kernel
theorem dX1_welcome_3 : decode cX1_welcome 3 = .ok (.istore 4, 2) := by decide +kernel
theorem dX1_welcome_5 : decode cX1_welcome 5 = .ok (.iload 4, 2) := by decide +kernel
theorem dX1_welcome_7 : decode cX1_welcome 7 = .ok (.aload_n 1, 1) := by decide +kernel
theorem dX1_welcome_8 : decode cX1_welcome 8 = .ok (.getfield 50, 3) := by decide +kernel
theorem dX1_welcome_11 : decode cX1_welcome 11 = .ok (.if_icmp .ge 27, 3) := by decide +kernel
theorem dX1_welcome_14 : decode cX1_welcome 14 = .ok (.aload_n 0, 1) := by decide +kernel
theorem dX1_welcome_15 : decode cX1_welcome 15 = .ok (.aload_n 1, 1) := by decide +kernel
theorem dX1_welcome_16 : decode cX1_welcome 16 = .ok (.iload 4, 2) := by decide +kernel
theorem dX1_welcome_18 : decode cX1_welcome 18 = .ok (.iload_n 2, 1) := by decide +kernel
theorem dX1_welcome_19 : decode cX1_welcome 19 = .ok (.invokevirtual 53, 3) := by decide +kernel
theorem dX1_welcome_22 : decode cX1_welcome 22 = .ok (.ifCond .ne 10, 3) := by decide +kernel
theorem dX1_welcome_25 : decode cX1_welcome 25 = .ok (.iload_n 3, 1) := by decide +kernel
theorem dX1_welcome_26 : decode cX1_welcome 26 = .ok (.iconst 1, 1) := by decide +kernel
theorem dX1_welcome_27 : decode cX1_welcome 27 = .ok (.iload 4, 2) := by decide +kernel
theorem dX1_welcome_29 : decode cX1_welcome 29 = .ok (.ishl, 1) := by decide +kernel
theorem dX1_welcome_30 : decode cX1_welcome 30 = .ok (.ior, 1) := by decide +kernel
theorem dX1_welcome_31 : decode cX1_welcome 31 = .ok (.istore_n 3, 1) := by decide +kernel
theorem dX1_welcome_32 : decode cX1_welcome 32 = .ok (.iinc 4 1, 3) := by decide +kernel
theorem dX1_welcome_35 : decode cX1_welcome 35 = .ok (.goto (-30), 3) := by decide +kernel
theorem dX1_welcome_38 : decode cX1_welcome 38 = .ok (.iload_n 3, 1) := by decide +kernel
theorem dX1_welcome_39 : decode cX1_welcome 39 = .ok (.ireturn, 1) := by decide +kernel
set_option maxRecDepth 20000 in
theorem ggX1_count_X2_size : GoodIn wsX1_count wsX2_size := goodIn_r _ [4, 5, 6, 7, 8, 9, 10, 11] (by decide +kernel) (by decide +kernel)
set_option maxRecDepth 20000 in
theorem gX1_count_X2_size_n57 : GoodIn wsX1_count (wsX2_size) := ggX1_count_X2_size
theorem dX1_count_0 : decode cX1_count 0 = .ok (.iconst 0, 1) := by decide +kernel
theorem dX1_count_1 : decode cX1_count 1 = .ok (.istore_n 2, 1) := by decide +kernel
theorem dX1_count_2 : decode cX1_count 2 = .ok (.iconst 0, 1) := by decide +kernel
theorem dX1_count_3 : decode cX1_count 3 = .ok (.istore_n 3, 1) := by decide +kernel
theorem dX1_count_4 : decode cX1_count 4 = .ok (.iload_n 3, 1) := by decide +kernel
theorem dX1_count_5 : decode cX1_count 5 = .ok (.bipush 6, 2) := by decide +kernel
theorem dX1_count_7 : decode cX1_count 7 = .ok (.if_icmp .ge 23, 3) := by decide +kernel
theorem dX1_count_10 : decode cX1_count 10 = .ok (.iload_n 2, 1) := by decide +kernel
theorem dX1_count_11 : decode cX1_count 11 = .ok (.aload_n 0, 1) := by decide +kernel
theorem dX1_count_12 : decode cX1_count 12 = .ok (.getfield 21, 3) := by decide +kernel
theorem dX1_count_15 : decode cX1_count 15 = .ok (.iload_n 3, 1) := by decide +kernel
theorem dX1_count_16 : decode cX1_count 16 = .ok (.iaload, 1) := by decide +kernel
theorem dX1_count_17 : decode cX1_count 17 = .ok (.iload_n 1, 1) := by decide +kernel
theorem dX1_count_18 : decode cX1_count 18 = .ok (.iand, 1) := by decide +kernel
theorem dX1_count_19 : decode cX1_count 19 = .ok (.invokestatic 57, 3) := by decide +kernel
theorem dX1_count_22 : decode cX1_count 22 = .ok (.iadd, 1) := by decide +kernel
theorem dX1_count_23 : decode cX1_count 23 = .ok (.istore_n 2, 1) := by decide +kernel
theorem dX1_count_24 : decode cX1_count 24 = .ok (.iinc 3 1, 3) := by decide +kernel
theorem dX1_count_27 : decode cX1_count 27 = .ok (.goto (-23), 3) := by decide +kernel
theorem dX1_count_30 : decode cX1_count 30 = .ok (.iload_n 2, 1) := by decide +kernel
theorem dX1_count_31 : decode cX1_count 31 = .ok (.ireturn, 1) := by decide +kernel
set_option maxRecDepth 20000 in
theorem ggX1_live_X1_welcome : GoodIn wsX1_live wsX1_welcome := goodIn_r _ [6, 7, 8, 9, 10, 5, 11, 12, 13, 14, 15, 16, 17, 18, 58, 59, 60, 61, 62, 63, 64, 51, 52, 53, 54, 55, 56, 57] (by decide +kernel) (by decide +kernel)
set_option maxRecDepth 20000 in
theorem gX1_live_X1_welcome : GoodIn wsX1_live (wsV RX1 61 RX1 yX1_welcome wsX1_welcome) := goodIn_app (goodIn_of _ (by decide +kernel)) ggX1_live_X1_welcome
set_option maxRecDepth 20000 in
theorem ggX1_live_X1_hush : GoodIn wsX1_live wsX1_hush := goodIn_r _ [22, 23, 24, 1, 25, 26, 17, 27, 28, 29, 30, 31, 32, 33, 34, 51, 52, 53, 54, 55, 56, 57] (by decide +kernel) (by decide +kernel)
set_option maxRecDepth 20000 in
theorem gX1_live_X1_hush : GoodIn wsX1_live (wsV RX1 65 RX1 yX1_hush wsX1_hush) := goodIn_app (goodIn_of _ (by decide +kernel)) ggX1_live_X1_hush
set_option maxRecDepth 20000 in
theorem ggX1_live_X1_spread : GoodIn wsX1_live wsX1_spread := goodIn_r _ [38, 23, 24, 39, 40, 41, 5, 42, 43, 16, 17, 18, 44, 45, 46, 47, 1, 7, 12, 13, 48, 49, 50, 51, 52, 53, 54, 55, 56, 57, 58, 59, 60, 61, 62, 63, 64] (by decide +kernel) (by decide +kernel)
set_option maxRecDepth 20000 in
theorem gX1_live_X1_spread : GoodIn wsX1_live (wsV RX1 68 RX1 yX1_spread wsX1_spread) := goodIn_app (goodIn_of _ (by decide +kernel)) ggX1_live_X1_spread
theorem dX1_live_0 : decode cX1_live 0 = .ok (.iconst 0, 1) := by decide +kernel
theorem dX1_live_1 : decode cX1_live 1 = .ok (.istore_n 3, 1) := by decide +kernel
theorem dX1_live_2 : decode cX1_live 2 = .ok (.iload_n 3, 1) := by decide +kernel
theorem dX1_live_3 : decode cX1_live 3 = .ok (.bipush 6, 2) := by decide +kernel
theorem dX1_live_5 : decode cX1_live 5 = .ok (.if_icmp .ge 21, 3) := by decide +kernel
theorem dX1_live_8 : decode cX1_live 8 = .ok (.aload_n 0, 1) := by decide +kernel
theorem dX1_live_9 : decode cX1_live 9 = .ok (.getfield 24, 3) := by decide +kernel
theorem dX1_live_12 : decode cX1_live 12 = .ok (.iload_n 3, 1) := by decide +kernel
theorem dX1_live_13 : decode cX1_live 13 = .ok (.aload_n 0, 1) := by decide +kernel
theorem dX1_live_14 : decode cX1_live 14 = .ok (.aload_n 1, 1) := by decide +kernel
theorem dX1_live_15 : decode cX1_live 15 = .ok (.iload_n 3, 1) := by decide +kernel
theorem dX1_live_16 : decode cX1_live 16 = .ok (.invokevirtual 61, 3) := by decide +kernel
theorem dX1_live_19 : decode cX1_live 19 = .ok (.iastore, 1) := by decide +kernel
theorem dX1_live_20 : decode cX1_live 20 = .ok (.iinc 3 1, 3) := by decide +kernel
theorem dX1_live_23 : decode cX1_live 23 = .ok (.goto (-21), 3) := by decide +kernel
theorem dX1_live_26 : decode cX1_live 26 = .ok (.iconst 1, 1) := by decide +kernel
theorem dX1_live_27 : decode cX1_live 27 = .ok (.istore_n 3, 1) := by decide +kernel
theorem dX1_live_28 : decode cX1_live 28 = .ok (.iconst 0, 1) := by decide +kernel
theorem dX1_live_29 : decode cX1_live 29 = .ok (.istore 4, 2) := by decide +kernel
theorem dX1_live_31 : decode cX1_live 31 = .ok (.iload 4, 2) := by decide +kernel
theorem dX1_live_33 : decode cX1_live 33 = .ok (.iload_n 2, 1) := by decide +kernel
theorem dX1_live_34 : decode cX1_live 34 = .ok (.if_icmp .ge 23, 3) := by decide +kernel
theorem dX1_live_37 : decode cX1_live 37 = .ok (.iload_n 3, 1) := by decide +kernel
theorem dX1_live_38 : decode cX1_live 38 = .ok (.ifCond .eq 19, 3) := by decide +kernel
theorem dX1_live_41 : decode cX1_live 41 = .ok (.aload_n 0, 1) := by decide +kernel
theorem dX1_live_42 : decode cX1_live 42 = .ok (.invokevirtual 65, 3) := by decide +kernel
theorem dX1_live_45 : decode cX1_live 45 = .ok (.aload_n 0, 1) := by decide +kernel
theorem dX1_live_46 : decode cX1_live 46 = .ok (.aload_n 1, 1) := by decide +kernel
theorem dX1_live_47 : decode cX1_live 47 = .ok (.invokevirtual 68, 3) := by decide +kernel
theorem dX1_live_50 : decode cX1_live 50 = .ok (.istore_n 3, 1) := by decide +kernel
theorem dX1_live_51 : decode cX1_live 51 = .ok (.iinc 4 1, 3) := by decide +kernel
theorem dX1_live_54 : decode cX1_live 54 = .ok (.goto (-23), 3) := by decide +kernel
theorem dX1_live_57 : decode cX1_live 57 = .ok (.return_, 1) := by decide +kernel
set_option maxRecDepth 20000 in
theorem ggX1_hush_X2_size : GoodIn wsX1_hush wsX2_size := goodIn_r _ [7, 8, 9, 10, 11, 12, 13, 14] (by decide +kernel) (by decide +kernel)
set_option maxRecDepth 20000 in
theorem gX1_hush_X2_size_n57 : GoodIn wsX1_hush (wsX2_size) := ggX1_hush_X2_size
theorem dX1_hush_0 : decode cX1_hush 0 = .ok (.iconst 0, 1) := by decide +kernel
theorem dX1_hush_1 : decode cX1_hush 1 = .ok (.istore_n 1, 1) := by decide +kernel
theorem dX1_hush_2 : decode cX1_hush 2 = .ok (.iload_n 1, 1) := by decide +kernel
theorem dX1_hush_3 : decode cX1_hush 3 = .ok (.bipush 6, 2) := by decide +kernel
theorem dX1_hush_5 : decode cX1_hush 5 = .ok (.if_icmp .ge 55, 3) := by decide +kernel
theorem dX1_hush_8 : decode cX1_hush 8 = .ok (.aload_n 0, 1) := by decide +kernel
theorem dX1_hush_9 : decode cX1_hush 9 = .ok (.getfield 27, 3) := by decide +kernel
theorem dX1_hush_12 : decode cX1_hush 12 = .ok (.iload_n 1, 1) := by decide +kernel
theorem dX1_hush_13 : decode cX1_hush 13 = .ok (.aload_n 0, 1) := by decide +kernel
theorem dX1_hush_14 : decode cX1_hush 14 = .ok (.getfield 21, 3) := by decide +kernel
theorem dX1_hush_17 : decode cX1_hush 17 = .ok (.iload_n 1, 1) := by decide +kernel
theorem dX1_hush_18 : decode cX1_hush 18 = .ok (.iaload, 1) := by decide +kernel
theorem dX1_hush_19 : decode cX1_hush 19 = .ok (.aload_n 0, 1) := by decide +kernel
theorem dX1_hush_20 : decode cX1_hush 20 = .ok (.getfield 24, 3) := by decide +kernel
theorem dX1_hush_23 : decode cX1_hush 23 = .ok (.iload_n 1, 1) := by decide +kernel
theorem dX1_hush_24 : decode cX1_hush 24 = .ok (.iaload, 1) := by decide +kernel
theorem dX1_hush_25 : decode cX1_hush 25 = .ok (.iand, 1) := by decide +kernel
theorem dX1_hush_26 : decode cX1_hush 26 = .ok (.iastore, 1) := by decide +kernel
theorem dX1_hush_27 : decode cX1_hush 27 = .ok (.aload_n 0, 1) := by decide +kernel
theorem dX1_hush_28 : decode cX1_hush 28 = .ok (.dup, 1) := by decide +kernel
theorem dX1_hush_29 : decode cX1_hush 29 = .ok (.getfield 30, 3) := by decide +kernel
theorem dX1_hush_32 : decode cX1_hush 32 = .ok (.aload_n 0, 1) := by decide +kernel
theorem dX1_hush_33 : decode cX1_hush 33 = .ok (.getfield 21, 3) := by decide +kernel
theorem dX1_hush_36 : decode cX1_hush 36 = .ok (.iload_n 1, 1) := by decide +kernel
theorem dX1_hush_37 : decode cX1_hush 37 = .ok (.iaload, 1) := by decide +kernel
theorem dX1_hush_38 : decode cX1_hush 38 = .ok (.aload_n 0, 1) := by decide +kernel
theorem dX1_hush_39 : decode cX1_hush 39 = .ok (.getfield 24, 3) := by decide +kernel
theorem dX1_hush_42 : decode cX1_hush 42 = .ok (.iload_n 1, 1) := by decide +kernel
theorem dX1_hush_43 : decode cX1_hush 43 = .ok (.iaload, 1) := by decide +kernel
theorem dX1_hush_44 : decode cX1_hush 44 = .ok (.iconst (-1), 1) := by decide +kernel
theorem dX1_hush_45 : decode cX1_hush 45 = .ok (.ixor, 1) := by decide +kernel
theorem dX1_hush_46 : decode cX1_hush 46 = .ok (.iand, 1) := by decide +kernel
theorem dX1_hush_47 : decode cX1_hush 47 = .ok (.invokestatic 57, 3) := by decide +kernel
theorem dX1_hush_50 : decode cX1_hush 50 = .ok (.iadd, 1) := by decide +kernel
theorem dX1_hush_51 : decode cX1_hush 51 = .ok (.putfield 30, 3) := by decide +kernel
theorem dX1_hush_54 : decode cX1_hush 54 = .ok (.iinc 1 1, 3) := by decide +kernel
theorem dX1_hush_57 : decode cX1_hush 57 = .ok (.goto (-55), 3) := by decide +kernel
theorem dX1_hush_60 : decode cX1_hush 60 = .ok (.return_, 1) := by decide +kernel
set_option maxRecDepth 20000 in
theorem ggX1_spread_X1_arriving : GoodIn wsX1_spread wsX1_arriving := goodIn_r _ [7, 8, 1, 9, 10, 11, 23, 24, 25, 26, 27, 28, 29] (by decide +kernel) (by decide +kernel)
set_option maxRecDepth 20000 in
theorem gX1_spread_X1_arriving : GoodIn wsX1_spread (wsV RX1 72 RX1 yX1_arriving wsX1_arriving) := goodIn_app (goodIn_of _ (by decide +kernel)) ggX1_spread_X1_arriving
set_option maxRecDepth 20000 in
theorem ggX1_spread_X1_admitted : GoodIn wsX1_spread wsX1_admitted := goodIn_r _ [15, 16, 17, 18, 19, 20, 9, 10, 11, 21, 22, 23, 24, 25, 26, 27, 28, 29, 30, 31, 32, 33, 34, 35, 36] (by decide +kernel) (by decide +kernel)
set_option maxRecDepth 20000 in
theorem gX1_spread_X1_admitted : GoodIn wsX1_spread (wsV RX1 75 RX1 yX1_admitted wsX1_admitted) := goodIn_app (goodIn_of _ (by decide +kernel)) ggX1_spread_X1_admitted
theorem dX1_spread_0 : decode cX1_spread 0 = .ok (.iconst 0, 1) := by decide +kernel
theorem dX1_spread_1 : decode cX1_spread 1 = .ok (.istore_n 2, 1) := by decide +kernel
theorem dX1_spread_2 : decode cX1_spread 2 = .ok (.iconst 0, 1) := by decide +kernel
theorem dX1_spread_3 : decode cX1_spread 3 = .ok (.istore_n 3, 1) := by decide +kernel
theorem dX1_spread_4 : decode cX1_spread 4 = .ok (.iload_n 3, 1) := by decide +kernel
theorem dX1_spread_5 : decode cX1_spread 5 = .ok (.bipush 6, 2) := by decide +kernel
theorem dX1_spread_7 : decode cX1_spread 7 = .ok (.if_icmp .ge 58, 3) := by decide +kernel
theorem dX1_spread_10 : decode cX1_spread 10 = .ok (.aload_n 0, 1) := by decide +kernel
theorem dX1_spread_11 : decode cX1_spread 11 = .ok (.getfield 27, 3) := by decide +kernel
theorem dX1_spread_14 : decode cX1_spread 14 = .ok (.iload_n 3, 1) := by decide +kernel
theorem dX1_spread_15 : decode cX1_spread 15 = .ok (.iaload, 1) := by decide +kernel
theorem dX1_spread_16 : decode cX1_spread 16 = .ok (.aload_n 0, 1) := by decide +kernel
theorem dX1_spread_17 : decode cX1_spread 17 = .ok (.aload_n 1, 1) := by decide +kernel
theorem dX1_spread_18 : decode cX1_spread 18 = .ok (.iload_n 3, 1) := by decide +kernel
theorem dX1_spread_19 : decode cX1_spread 19 = .ok (.aload_n 0, 1) := by decide +kernel
theorem dX1_spread_20 : decode cX1_spread 20 = .ok (.iload_n 3, 1) := by decide +kernel
theorem dX1_spread_21 : decode cX1_spread 21 = .ok (.invokevirtual 72, 3) := by decide +kernel
theorem dX1_spread_24 : decode cX1_spread 24 = .ok (.invokevirtual 75, 3) := by decide +kernel
theorem dX1_spread_27 : decode cX1_spread 27 = .ok (.ior, 1) := by decide +kernel
theorem dX1_spread_28 : decode cX1_spread 28 = .ok (.istore 4, 2) := by decide +kernel
theorem dX1_spread_30 : decode cX1_spread 30 = .ok (.iload_n 2, 1) := by decide +kernel
theorem dX1_spread_31 : decode cX1_spread 31 = .ok (.ifCond .ne 14, 3) := by decide +kernel
theorem dX1_spread_34 : decode cX1_spread 34 = .ok (.iload 4, 2) := by decide +kernel
theorem dX1_spread_36 : decode cX1_spread 36 = .ok (.aload_n 0, 1) := by decide +kernel
theorem dX1_spread_37 : decode cX1_spread 37 = .ok (.getfield 21, 3) := by decide +kernel
theorem dX1_spread_40 : decode cX1_spread 40 = .ok (.iload_n 3, 1) := by decide +kernel
theorem dX1_spread_41 : decode cX1_spread 41 = .ok (.iaload, 1) := by decide +kernel
theorem dX1_spread_42 : decode cX1_spread 42 = .ok (.if_icmp .eq 7, 3) := by decide +kernel
theorem dX1_spread_45 : decode cX1_spread 45 = .ok (.iconst 1, 1) := by decide +kernel
theorem dX1_spread_46 : decode cX1_spread 46 = .ok (.goto 4, 3) := by decide +kernel
theorem dX1_spread_49 : decode cX1_spread 49 = .ok (.iconst 0, 1) := by decide +kernel
theorem dX1_spread_50 : decode cX1_spread 50 = .ok (.istore_n 2, 1) := by decide +kernel
theorem dX1_spread_51 : decode cX1_spread 51 = .ok (.aload_n 0, 1) := by decide +kernel
theorem dX1_spread_52 : decode cX1_spread 52 = .ok (.getfield 21, 3) := by decide +kernel
theorem dX1_spread_55 : decode cX1_spread 55 = .ok (.iload_n 3, 1) := by decide +kernel
theorem dX1_spread_56 : decode cX1_spread 56 = .ok (.iload 4, 2) := by decide +kernel
theorem dX1_spread_58 : decode cX1_spread 58 = .ok (.iastore, 1) := by decide +kernel
theorem dX1_spread_59 : decode cX1_spread 59 = .ok (.iinc 3 1, 3) := by decide +kernel
theorem dX1_spread_62 : decode cX1_spread 62 = .ok (.goto (-58), 3) := by decide +kernel
theorem dX1_spread_65 : decode cX1_spread 65 = .ok (.iload_n 2, 1) := by decide +kernel
theorem dX1_spread_66 : decode cX1_spread 66 = .ok (.ireturn, 1) := by decide +kernel
set_option maxRecDepth 20000 in
theorem ggX1_arriving_X2_has : GoodIn wsX1_arriving wsX2_has := goodIn_r _ [5] (by decide +kernel) (by decide +kernel)
set_option maxRecDepth 20000 in
theorem gX1_arriving_X2_has_n43 : GoodIn wsX1_arriving (wsX2_has) := ggX1_arriving_X2_has
theorem dX1_arriving_0 : decode cX1_arriving 0 = .ok (.iconst 0, 1) := by decide +kernel
theorem dX1_arriving_1 : decode cX1_arriving 1 = .ok (.istore_n 2, 1) := by decide +kernel
theorem dX1_arriving_2 : decode cX1_arriving 2 = .ok (.iconst 0, 1) := by decide +kernel
theorem dX1_arriving_3 : decode cX1_arriving 3 = .ok (.istore_n 3, 1) := by decide +kernel
theorem dX1_arriving_4 : decode cX1_arriving 4 = .ok (.iload_n 3, 1) := by decide +kernel
theorem dX1_arriving_5 : decode cX1_arriving 5 = .ok (.bipush 6, 2) := by decide +kernel
theorem dX1_arriving_7 : decode cX1_arriving 7 = .ok (.if_icmp .ge 31, 3) := by decide +kernel
theorem dX1_arriving_10 : decode cX1_arriving 10 = .ok (.aload_n 0, 1) := by decide +kernel
theorem dX1_arriving_11 : decode cX1_arriving 11 = .ok (.getfield 9, 3) := by decide +kernel
theorem dX1_arriving_14 : decode cX1_arriving 14 = .ok (.iload_n 1, 1) := by decide +kernel
theorem dX1_arriving_15 : decode cX1_arriving 15 = .ok (.iaload, 1) := by decide +kernel
theorem dX1_arriving_16 : decode cX1_arriving 16 = .ok (.iload_n 3, 1) := by decide +kernel
theorem dX1_arriving_17 : decode cX1_arriving 17 = .ok (.invokestatic 43, 3) := by decide +kernel
theorem dX1_arriving_20 : decode cX1_arriving 20 = .ok (.ifCond .eq 12, 3) := by decide +kernel
theorem dX1_arriving_23 : decode cX1_arriving 23 = .ok (.iload_n 2, 1) := by decide +kernel
theorem dX1_arriving_24 : decode cX1_arriving 24 = .ok (.aload_n 0, 1) := by decide +kernel
theorem dX1_arriving_25 : decode cX1_arriving 25 = .ok (.getfield 27, 3) := by decide +kernel
theorem dX1_arriving_28 : decode cX1_arriving 28 = .ok (.iload_n 3, 1) := by decide +kernel
theorem dX1_arriving_29 : decode cX1_arriving 29 = .ok (.iaload, 1) := by decide +kernel
theorem dX1_arriving_30 : decode cX1_arriving 30 = .ok (.ior, 1) := by decide +kernel
theorem dX1_arriving_31 : decode cX1_arriving 31 = .ok (.istore_n 2, 1) := by decide +kernel
theorem dX1_arriving_32 : decode cX1_arriving 32 = .ok (.iinc 3 1, 3) := by decide +kernel
theorem dX1_arriving_35 : decode cX1_arriving 35 = .ok (.goto (-31), 3) := by decide +kernel
theorem dX1_arriving_38 : decode cX1_arriving 38 = .ok (.iload_n 2, 1) := by decide +kernel
theorem dX1_arriving_39 : decode cX1_arriving 39 = .ok (.ireturn, 1) := by decide +kernel
set_option maxRecDepth 20000 in
theorem ggX1_admitted_X2_has : GoodIn wsX1_admitted wsX2_has := goodIn_r _ [8] (by decide +kernel) (by decide +kernel)
set_option maxRecDepth 20000 in
theorem gX1_admitted_X2_has_n43 : GoodIn wsX1_admitted (wsX2_has) := ggX1_admitted_X2_has
set_option maxRecDepth 20000 in
theorem ggX1_admitted_X2_smallestAlone : GoodIn wsX1_admitted wsX2_smallestAlone := goodIn_r _ [10] (by decide +kernel) (by decide +kernel)
set_option maxRecDepth 20000 in
theorem gX1_admitted_X2_smallestAlone_n82 : GoodIn wsX1_admitted (wsX2_smallestAlone) := ggX1_admitted_X2_smallestAlone
theorem dX1_admitted_0 : decode cX1_admitted 0 = .ok (.iload_n 3, 1) := by decide +kernel
theorem dX1_admitted_1 : decode cX1_admitted 1 = .ok (.aload_n 0, 1) := by decide +kernel
theorem dX1_admitted_2 : decode cX1_admitted 2 = .ok (.getfield 24, 3) := by decide +kernel
theorem dX1_admitted_5 : decode cX1_admitted 5 = .ok (.iload_n 2, 1) := by decide +kernel
theorem dX1_admitted_6 : decode cX1_admitted 6 = .ok (.iaload, 1) := by decide +kernel
theorem dX1_admitted_7 : decode cX1_admitted 7 = .ok (.iand, 1) := by decide +kernel
theorem dX1_admitted_8 : decode cX1_admitted 8 = .ok (.istore 4, 2) := by decide +kernel
theorem dX1_admitted_10 : decode cX1_admitted 10 = .ok (.iload_n 3, 1) := by decide +kernel
theorem dX1_admitted_11 : decode cX1_admitted 11 = .ok (.aload_n 0, 1) := by decide +kernel
theorem dX1_admitted_12 : decode cX1_admitted 12 = .ok (.getfield 24, 3) := by decide +kernel
theorem dX1_admitted_15 : decode cX1_admitted 15 = .ok (.iload_n 2, 1) := by decide +kernel
theorem dX1_admitted_16 : decode cX1_admitted 16 = .ok (.iaload, 1) := by decide +kernel
theorem dX1_admitted_17 : decode cX1_admitted 17 = .ok (.iconst (-1), 1) := by decide +kernel
theorem dX1_admitted_18 : decode cX1_admitted 18 = .ok (.ixor, 1) := by decide +kernel
theorem dX1_admitted_19 : decode cX1_admitted 19 = .ok (.iand, 1) := by decide +kernel
theorem dX1_admitted_20 : decode cX1_admitted 20 = .ok (.istore 5, 2) := by decide +kernel
theorem dX1_admitted_22 : decode cX1_admitted 22 = .ok (.iconst 0, 1) := by decide +kernel
theorem dX1_admitted_23 : decode cX1_admitted 23 = .ok (.istore 6, 2) := by decide +kernel
theorem dX1_admitted_25 : decode cX1_admitted 25 = .ok (.iload 6, 2) := by decide +kernel
theorem dX1_admitted_27 : decode cX1_admitted 27 = .ok (.aload_n 1, 1) := by decide +kernel
theorem dX1_admitted_28 : decode cX1_admitted 28 = .ok (.getfield 50, 3) := by decide +kernel
theorem dX1_admitted_31 : decode cX1_admitted 31 = .ok (.if_icmp .ge 60, 3) := by decide +kernel
theorem dX1_admitted_34 : decode cX1_admitted 34 = .ok (.iload 5, 2) := by decide +kernel
theorem dX1_admitted_36 : decode cX1_admitted 36 = .ok (.iload 6, 2) := by decide +kernel
theorem dX1_admitted_38 : decode cX1_admitted 38 = .ok (.invokestatic 43, 3) := by decide +kernel
theorem dX1_admitted_41 : decode cX1_admitted 41 = .ok (.ifCond .eq 44, 3) := by decide +kernel
theorem dX1_admitted_44 : decode cX1_admitted 44 = .ok (.aload_n 0, 1) := by decide +kernel
theorem dX1_admitted_45 : decode cX1_admitted 45 = .ok (.getfield 15, 3) := by decide +kernel
theorem dX1_admitted_48 : decode cX1_admitted 48 = .ok (.iload_n 2, 1) := by decide +kernel
theorem dX1_admitted_49 : decode cX1_admitted 49 = .ok (.iaload, 1) := by decide +kernel
theorem dX1_admitted_50 : decode cX1_admitted 50 = .ok (.aload_n 1, 1) := by decide +kernel
theorem dX1_admitted_51 : decode cX1_admitted 51 = .ok (.getfield 38, 3) := by decide +kernel
theorem dX1_admitted_54 : decode cX1_admitted 54 = .ok (.iload 6, 2) := by decide +kernel
theorem dX1_admitted_56 : decode cX1_admitted 56 = .ok (.iaload, 1) := by decide +kernel
theorem dX1_admitted_57 : decode cX1_admitted 57 = .ok (.invokestatic 43, 3) := by decide +kernel
theorem dX1_admitted_60 : decode cX1_admitted 60 = .ok (.ifCond .ne 25, 3) := by decide +kernel
theorem dX1_admitted_63 : decode cX1_admitted 63 = .ok (.iload 4, 2) := by decide +kernel
theorem dX1_admitted_65 : decode cX1_admitted 65 = .ok (.aload_n 1, 1) := by decide +kernel
theorem dX1_admitted_66 : decode cX1_admitted 66 = .ok (.getfield 79, 3) := by decide +kernel
theorem dX1_admitted_69 : decode cX1_admitted 69 = .ok (.iload 6, 2) := by decide +kernel
theorem dX1_admitted_71 : decode cX1_admitted 71 = .ok (.iaload, 1) := by decide +kernel
theorem dX1_admitted_72 : decode cX1_admitted 72 = .ok (.aload_n 0, 1) := by decide +kernel
theorem dX1_admitted_73 : decode cX1_admitted 73 = .ok (.getfield 24, 3) := by decide +kernel
theorem dX1_admitted_76 : decode cX1_admitted 76 = .ok (.iload_n 2, 1) := by decide +kernel
theorem dX1_admitted_77 : decode cX1_admitted 77 = .ok (.iaload, 1) := by decide +kernel
theorem dX1_admitted_78 : decode cX1_admitted 78 = .ok (.iand, 1) := by decide +kernel
theorem dX1_admitted_79 : decode cX1_admitted 79 = .ok (.invokestatic 82, 3) := by decide +kernel
theorem dX1_admitted_82 : decode cX1_admitted 82 = .ok (.ior, 1) := by decide +kernel
theorem dX1_admitted_83 : decode cX1_admitted 83 = .ok (.istore 4, 2) := by decide +kernel
theorem dX1_admitted_85 : decode cX1_admitted 85 = .ok (.iinc 6 1, 3) := by decide +kernel
theorem dX1_admitted_88 : decode cX1_admitted 88 = .ok (.goto (-63), 3) := by decide +kernel
theorem dX1_admitted_91 : decode cX1_admitted 91 = .ok (.iload 4, 2) := by decide +kernel
theorem dX1_admitted_93 : decode cX1_admitted 93 = .ok (.ireturn, 1) := by decide +kernel
set_option maxRecDepth 20000 in
theorem ggX2_init_X0_init : GoodIn wsX2_init wsX0_init := goodIn_r _ [16, 17, 2, 3, 18, 19, 20, 21, 22, 23, 24, 25, 37, 38, 39, 40, 41, 42, 43] (by decide +kernel) (by decide +kernel)
set_option maxRecDepth 20000 in
theorem gX2_init_X0_init : GoodIn wsX2_init (wsX0_init) := ggX2_init_X0_init
set_option maxRecDepth 20000 in
theorem ggX2_init_X1_init : GoodIn wsX2_init wsX1_init := goodIn_r _ [28, 29, 2, 3, 19, 30, 31, 32, 33, 34, 35, 36, 48, 49, 50, 51, 52, 53, 54] (by decide +kernel) (by decide +kernel)
set_option maxRecDepth 20000 in
theorem gX2_init_X1_init : GoodIn wsX2_init (wsX1_init) := ggX2_init_X1_init
theorem dX2_init_0 : decode cX2_init 0 = .ok (.aload_n 0, 1) := by decide +kernel
theorem dX2_init_1 : decode cX2_init 1 = .ok (.invokespecial 1, 3) := by decide +kernel
theorem dX2_init_4 : decode cX2_init 4 = .ok (.aload_n 0, 1) := by decide +kernel
theorem dX2_init_5 : decode cX2_init 5 = .ok (.new 7, 3) := by decide +kernel
theorem dX2_init_8 : decode cX2_init 8 = .ok (.dup, 1) := by decide +kernel
theorem dX2_init_9 : decode cX2_init 9 = .ok (.invokespecial 9, 3) := by decide +kernel
theorem dX2_init_12 : decode cX2_init 12 = .ok (.putfield 10, 3) := by decide +kernel
theorem dX2_init_15 : decode cX2_init 15 = .ok (.aload_n 0, 1) := by decide +kernel
theorem dX2_init_16 : decode cX2_init 16 = .ok (.new 16, 3) := by decide +kernel
theorem dX2_init_19 : decode cX2_init 19 = .ok (.dup, 1) := by decide +kernel
theorem dX2_init_20 : decode cX2_init 20 = .ok (.invokespecial 18, 3) := by decide +kernel
theorem dX2_init_23 : decode cX2_init 23 = .ok (.putfield 19, 3) := by decide +kernel
theorem dX2_init_26 : decode cX2_init 26 = .ok (.aload_n 0, 1) := by decide +kernel
theorem dX2_init_27 : decode cX2_init 27 = .ok (.new 16, 3) := by decide +kernel
theorem dX2_init_30 : decode cX2_init 30 = .ok (.dup, 1) := by decide +kernel
theorem dX2_init_31 : decode cX2_init 31 = .ok (.invokespecial 18, 3) := by decide +kernel
theorem dX2_init_34 : decode cX2_init 34 = .ok (.putfield 23, 3) := by decide +kernel
theorem dX2_init_37 : decode cX2_init 37 = .ok (.aload_n 0, 1) := by decide +kernel
theorem dX2_init_38 : decode cX2_init 38 = .ok (.iconst 0, 1) := by decide +kernel
theorem dX2_init_39 : decode cX2_init 39 = .ok (.putfield 26, 3) := by decide +kernel
theorem dX2_init_42 : decode cX2_init 42 = .ok (.return_, 1) := by decide +kernel
set_option maxRecDepth 20000 in
theorem ggX2_addFable_X2_needMoral : GoodIn wsX2_addFable wsX2_needMoral := goodIn_ca (goodIn_r _ [5, 6, 7] (by decide +kernel) (by decide +kernel)) (goodIn_sub (fun _ h => List.mem_cons_of_mem _ (List.mem_append_left _ (List.mem_append_right _ h))) (by decide +kernel))
set_option maxRecDepth 20000 in
theorem gX2_addFable_X2_needMoral : GoodIn wsX2_addFable (va_wsS RX2 30 yX2_needMoral wsX2_needMoral) := goodIn_app (goodIn_of _ (by decide +kernel)) ggX2_addFable_X2_needMoral
set_option maxRecDepth 20000 in
theorem ggX2_addFable_X2_needBeast : GoodIn wsX2_addFable wsX2_needBeast := goodIn_ca (goodIn_r _ [10, 6, 7] (by decide +kernel) (by decide +kernel)) (goodIn_sub (fun _ h => List.mem_cons_of_mem _ (List.mem_append_left _ (List.mem_append_right _ h))) (by decide +kernel))
set_option maxRecDepth 20000 in
theorem gX2_addFable_X2_needBeast : GoodIn wsX2_addFable (va_wsS RX2 34 yX2_needBeast wsX2_needBeast) := goodIn_app (goodIn_of _ (by decide +kernel)) ggX2_addFable_X2_needBeast
set_option maxRecDepth 20000 in
theorem ggX2_addFable_X2_needValley : GoodIn wsX2_addFable wsX2_needValley := goodIn_ca (goodIn_r _ [13, 6, 7] (by decide +kernel) (by decide +kernel)) (goodIn_sub (fun _ h => List.mem_cons_of_mem _ (List.mem_append_left _ (List.mem_append_right _ h))) (by decide +kernel))
set_option maxRecDepth 20000 in
theorem gX2_addFable_X2_needValley : GoodIn wsX2_addFable (va_wsS RX2 37 yX2_needValley wsX2_needValley) := goodIn_app (goodIn_of _ (by decide +kernel)) ggX2_addFable_X2_needValley
set_option maxRecDepth 20000 in
theorem ggX2_addFable_X2_needFreePage : GoodIn wsX2_addFable wsX2_needFreePage := goodIn_ca (goodIn_r _ [17, 18, 19, 1, 20, 33, 34, 35, 36, 37, 38, 39, 40, 41, 42, 43] (by decide +kernel) (by decide +kernel)) (goodIn_sub (fun _ h => List.mem_cons_of_mem _ (List.mem_append_right _ h)) (by decide +kernel))
set_option maxRecDepth 20000 in
theorem gX2_addFable_X2_needFreePage : GoodIn wsX2_addFable (wsV RX2 40 RX2 yX2_needFreePage wsX2_needFreePage) := goodIn_app (goodIn_of _ (by decide +kernel)) ggX2_addFable_X2_needFreePage
set_option maxRecDepth 20000 in
theorem ggX2_addFable_X0_write : GoodIn wsX2_addFable wsX0_write := goodIn_r _ [25, 26, 27, 28, 29, 30, 31, 32, 37, 38, 39, 40, 41, 42, 43] (by decide +kernel) (by decide +kernel)
set_option maxRecDepth 20000 in
theorem gX2_addFable_X0_write : GoodIn wsX2_addFable (wsV RX2 43 RX0 yX0_write wsX0_write) := goodIn_app (goodIn_of _ (by decide +kernel)) ggX2_addFable_X0_write
theorem dX2_addFable_0 : decode cX2_addFable 0 = .ok (.iload_n 1, 1) := by decide +kernel
theorem dX2_addFable_1 : decode cX2_addFable 1 = .ok (.invokestatic 30, 3) := by decide +kernel
theorem dX2_addFable_4 : decode cX2_addFable 4 = .ok (.iload_n 2, 1) := by decide +kernel
theorem dX2_addFable_5 : decode cX2_addFable 5 = .ok (.invokestatic 34, 3) := by decide +kernel
theorem dX2_addFable_8 : decode cX2_addFable 8 = .ok (.iload_n 3, 1) := by decide +kernel
theorem dX2_addFable_9 : decode cX2_addFable 9 = .ok (.invokestatic 37, 3) := by decide +kernel
theorem dX2_addFable_12 : decode cX2_addFable 12 = .ok (.aload_n 0, 1) := by decide +kernel
theorem dX2_addFable_13 : decode cX2_addFable 13 = .ok (.invokevirtual 40, 3) := by decide +kernel
theorem dX2_addFable_16 : decode cX2_addFable 16 = .ok (.aload_n 0, 1) := by decide +kernel
theorem dX2_addFable_17 : decode cX2_addFable 17 = .ok (.getfield 10, 3) := by decide +kernel
theorem dX2_addFable_20 : decode cX2_addFable 20 = .ok (.iload_n 1, 1) := by decide +kernel
theorem dX2_addFable_21 : decode cX2_addFable 21 = .ok (.iconst 1, 1) := by decide +kernel
theorem dX2_addFable_22 : decode cX2_addFable 22 = .ok (.iload_n 2, 1) := by decide +kernel
theorem dX2_addFable_23 : decode cX2_addFable 23 = .ok (.ishl, 1) := by decide +kernel
theorem dX2_addFable_24 : decode cX2_addFable 24 = .ok (.iload_n 3, 1) := by decide +kernel
theorem dX2_addFable_25 : decode cX2_addFable 25 = .ok (.iconst (-1), 1) := by decide +kernel
theorem dX2_addFable_26 : decode cX2_addFable 26 = .ok (.invokevirtual 43, 3) := by decide +kernel
theorem dX2_addFable_29 : decode cX2_addFable 29 = .ok (.ireturn, 1) := by decide +kernel
set_option maxRecDepth 20000 in
theorem ggX2_addBeast_X2_needFable : GoodIn wsX2_addBeast wsX2_needFable := goodIn_ca (goodIn_r _ [10, 11, 12, 3, 13, 30, 31, 32, 33, 34, 35, 36, 37, 38, 39, 40] (by decide +kernel) (by decide +kernel)) (goodIn_sub (fun _ h => List.mem_cons_of_mem _ (List.mem_append_right _ h)) (by decide +kernel))
set_option maxRecDepth 20000 in
theorem gX2_addBeast_X2_needFable : GoodIn wsX2_addBeast (wsV RX2 47 RX2 yX2_needFable wsX2_needFable) := goodIn_app (goodIn_of _ (by decide +kernel)) ggX2_addBeast_X2_needFable
set_option maxRecDepth 20000 in
theorem ggX2_addBeast_X2_needBeast : GoodIn wsX2_addBeast wsX2_needBeast := goodIn_ca (goodIn_r _ [16, 11, 12] (by decide +kernel) (by decide +kernel)) (goodIn_sub (fun _ h => List.mem_cons_of_mem _ (List.mem_append_right _ h)) (by decide +kernel))
set_option maxRecDepth 20000 in
theorem gX2_addBeast_X2_needBeast : GoodIn wsX2_addBeast (va_wsS RX2 34 yX2_needBeast wsX2_needBeast) := goodIn_app (goodIn_of _ (by decide +kernel)) ggX2_addBeast_X2_needBeast
set_option maxRecDepth 20000 in
theorem ggX2_addBeast_X2_has : GoodIn wsX2_addBeast wsX2_has := goodIn_r _ [19] (by decide +kernel) (by decide +kernel)
set_option maxRecDepth 20000 in
theorem gX2_addBeast_X2_has : GoodIn wsX2_addBeast (va_wsS RX2 54 yX2_has wsX2_has) := goodIn_app (goodIn_of _ (by decide +kernel)) ggX2_addBeast_X2_has
set_option maxRecDepth 20000 in
theorem ggX2_addBeast_X2_size : GoodIn wsX2_addBeast wsX2_size := goodIn_r _ [22, 23, 24, 25, 26, 27, 28, 29] (by decide +kernel) (by decide +kernel)
set_option maxRecDepth 20000 in
theorem gX2_addBeast_X2_size : GoodIn wsX2_addBeast (va_wsS RX2 70 yX2_size wsX2_size) := goodIn_app (goodIn_of _ (by decide +kernel)) ggX2_addBeast_X2_size
theorem dX2_addBeast_0 : decode cX2_addBeast 0 = .ok (.aload_n 0, 1) := by decide +kernel
theorem dX2_addBeast_1 : decode cX2_addBeast 1 = .ok (.iload_n 1, 1) := by decide +kernel
theorem dX2_addBeast_2 : decode cX2_addBeast 2 = .ok (.invokevirtual 47, 3) := by decide +kernel
theorem dX2_addBeast_5 : decode cX2_addBeast 5 = .ok (.iload_n 2, 1) := by decide +kernel
theorem dX2_addBeast_6 : decode cX2_addBeast 6 = .ok (.invokestatic 34, 3) := by decide +kernel
theorem dX2_addBeast_9 : decode cX2_addBeast 9 = .ok (.aload_n 0, 1) := by decide +kernel
theorem dX2_addBeast_10 : decode cX2_addBeast 10 = .ok (.getfield 10, 3) := by decide +kernel
theorem dX2_addBeast_13 : decode cX2_addBeast 13 = .ok (.getfield 50, 3) := by decide +kernel
theorem dX2_addBeast_16 : decode cX2_addBeast 16 = .ok (.iload_n 1, 1) := by decide +kernel
theorem dX2_addBeast_17 : decode cX2_addBeast 17 = .ok (.iaload, 1) := by decide +kernel
theorem dX2_addBeast_18 : decode cX2_addBeast 18 = .ok (.iload_n 2, 1) := by decide +kernel
theorem dX2_addBeast_19 : decode cX2_addBeast 19 = .ok (.invokestatic 54, 3) := by decide +kernel
theorem dX2_addBeast_22 : decode cX2_addBeast 22 = .ok (.ifCond .eq 13, 3) := by decide +kernel
theorem dX2_addBeast_25 : decode cX2_addBeast 25 = .ok (.new 58, 3) := by decide +kernel
theorem dX2_addBeast_28 : decode cX2_addBeast 28 = .ok (.dup, 1) := by decide +kernel
theorem dX2_addBeast_29 : decode cX2_addBeast 29 = .ok (.ldc 60, 2) := by decide +kernel
theorem dX2_addBeast_31 : decode cX2_addBeast 31 = .ok (.invokespecial 62, 3) := by decide +kernel
theorem dX2_addBeast_34 : decode cX2_addBeast 34 = .ok (.athrow, 1) := by decide +kernel
theorem dX2_addBeast_35 : decode cX2_addBeast 35 = .ok (.aload_n 0, 1) := by decide +kernel
theorem dX2_addBeast_36 : decode cX2_addBeast 36 = .ok (.getfield 10, 3) := by decide +kernel
theorem dX2_addBeast_39 : decode cX2_addBeast 39 = .ok (.getfield 65, 3) := by decide +kernel
theorem dX2_addBeast_42 : decode cX2_addBeast 42 = .ok (.iload_n 1, 1) := by decide +kernel
theorem dX2_addBeast_43 : decode cX2_addBeast 43 = .ok (.iaload, 1) := by decide +kernel
theorem dX2_addBeast_44 : decode cX2_addBeast 44 = .ok (.ifCond .eq 13, 3) := by decide +kernel
theorem dX2_addBeast_47 : decode cX2_addBeast 47 = .ok (.new 58, 3) := by decide +kernel
theorem dX2_addBeast_50 : decode cX2_addBeast 50 = .ok (.dup, 1) := by decide +kernel
theorem dX2_addBeast_51 : decode cX2_addBeast 51 = .ok (.ldc 68, 2) := by decide +kernel
theorem dX2_addBeast_53 : decode cX2_addBeast 53 = .ok (.invokespecial 62, 3) := by decide +kernel
theorem dX2_addBeast_56 : decode cX2_addBeast 56 = .ok (.athrow, 1) := by decide +kernel
theorem dX2_addBeast_57 : decode cX2_addBeast 57 = .ok (.aload_n 0, 1) := by decide +kernel
theorem dX2_addBeast_58 : decode cX2_addBeast 58 = .ok (.getfield 10, 3) := by decide +kernel
theorem dX2_addBeast_61 : decode cX2_addBeast 61 = .ok (.getfield 50, 3) := by decide +kernel
theorem dX2_addBeast_64 : decode cX2_addBeast 64 = .ok (.iload_n 1, 1) := by decide +kernel
theorem dX2_addBeast_65 : decode cX2_addBeast 65 = .ok (.dup2, 1) := by decide +kernel
theorem dX2_addBeast_66 : decode cX2_addBeast 66 = .ok (.iaload, 1) := by decide +kernel
theorem dX2_addBeast_67 : decode cX2_addBeast 67 = .ok (.iconst 1, 1) := by decide +kernel
theorem dX2_addBeast_68 : decode cX2_addBeast 68 = .ok (.iload_n 2, 1) := by decide +kernel
theorem dX2_addBeast_69 : decode cX2_addBeast 69 = .ok (.ishl, 1) := by decide +kernel
theorem dX2_addBeast_70 : decode cX2_addBeast 70 = .ok (.ior, 1) := by decide +kernel
theorem dX2_addBeast_71 : decode cX2_addBeast 71 = .ok (.iastore, 1) := by decide +kernel
theorem dX2_addBeast_72 : decode cX2_addBeast 72 = .ok (.aload_n 0, 1) := by decide +kernel
theorem dX2_addBeast_73 : decode cX2_addBeast 73 = .ok (.getfield 10, 3) := by decide +kernel
theorem dX2_addBeast_76 : decode cX2_addBeast 76 = .ok (.getfield 50, 3) := by decide +kernel
theorem dX2_addBeast_79 : decode cX2_addBeast 79 = .ok (.iload_n 1, 1) := by decide +kernel
theorem dX2_addBeast_80 : decode cX2_addBeast 80 = .ok (.iaload, 1) := by decide +kernel
theorem dX2_addBeast_81 : decode cX2_addBeast 81 = .ok (.invokestatic 70, 3) := by decide +kernel
theorem dX2_addBeast_84 : decode cX2_addBeast 84 = .ok (.ireturn, 1) := by decide +kernel
set_option maxRecDepth 20000 in
theorem ggX2_addVariant_X2_needFable : GoodIn wsX2_addVariant wsX2_needFable := goodIn_ca (goodIn_r _ [10, 11, 12, 3, 13, 42, 43, 44, 45, 46, 47, 48, 49, 50, 51, 52] (by decide +kernel) (by decide +kernel)) (goodIn_sub (fun _ h => List.mem_cons_of_mem _ (List.mem_append_right _ h)) (by decide +kernel))
set_option maxRecDepth 20000 in
theorem gX2_addVariant_X2_needFable : GoodIn wsX2_addVariant (wsV RX2 47 RX2 yX2_needFable wsX2_needFable) := goodIn_app (goodIn_of _ (by decide +kernel)) ggX2_addVariant_X2_needFable
set_option maxRecDepth 20000 in
theorem ggX2_addVariant_X2_needBeast : GoodIn wsX2_addVariant wsX2_needBeast := goodIn_ca (goodIn_r _ [16, 11, 12] (by decide +kernel) (by decide +kernel)) (goodIn_sub (fun _ h => List.mem_cons_of_mem _ (List.mem_append_right _ h)) (by decide +kernel))
set_option maxRecDepth 20000 in
theorem gX2_addVariant_X2_needBeast : GoodIn wsX2_addVariant (va_wsS RX2 34 yX2_needBeast wsX2_needBeast) := goodIn_app (goodIn_of _ (by decide +kernel)) ggX2_addVariant_X2_needBeast
set_option maxRecDepth 20000 in
theorem ggX2_addVariant_X2_needValley : GoodIn wsX2_addVariant wsX2_needValley := goodIn_ca (goodIn_r _ [19, 11, 12] (by decide +kernel) (by decide +kernel)) (goodIn_sub (fun _ h => List.mem_cons_of_mem _ (List.mem_append_right _ h)) (by decide +kernel))
set_option maxRecDepth 20000 in
theorem gX2_addVariant_X2_needValley : GoodIn wsX2_addVariant (va_wsS RX2 37 yX2_needValley wsX2_needValley) := goodIn_app (goodIn_of _ (by decide +kernel)) ggX2_addVariant_X2_needValley
set_option maxRecDepth 20000 in
theorem ggX2_addVariant_X2_needFreePage : GoodIn wsX2_addVariant wsX2_needFreePage := goodIn_ca (goodIn_r _ [23, 1, 2, 3, 13, 42, 43, 44, 45, 46, 47, 48, 49, 50, 51, 52] (by decide +kernel) (by decide +kernel)) (goodIn_sub (fun _ h => List.mem_cons_of_mem _ (List.mem_append_left _ (List.mem_append_right _ h))) (by decide +kernel))
set_option maxRecDepth 20000 in
theorem gX2_addVariant_X2_needFreePage : GoodIn wsX2_addVariant (wsV RX2 40 RX2 yX2_needFreePage wsX2_needFreePage) := goodIn_app (goodIn_of _ (by decide +kernel)) ggX2_addVariant_X2_needFreePage
set_option maxRecDepth 20000 in
theorem ggX2_addVariant_X2_has : GoodIn wsX2_addVariant wsX2_has := goodIn_r _ [26] (by decide +kernel) (by decide +kernel)
set_option maxRecDepth 20000 in
theorem gX2_addVariant_X2_has : GoodIn wsX2_addVariant (va_wsS RX2 54 yX2_has wsX2_has) := goodIn_app (goodIn_of _ (by decide +kernel)) ggX2_addVariant_X2_has
set_option maxRecDepth 20000 in
theorem ggX2_addVariant_X2_turned : GoodIn wsX2_addVariant wsX2_turned := goodIn_r _ [29] (by decide +kernel) (by decide +kernel)
set_option maxRecDepth 20000 in
theorem gX2_addVariant_X2_turned : GoodIn wsX2_addVariant (va_wsS RX2 81 yX2_turned wsX2_turned) := goodIn_app (goodIn_of _ (by decide +kernel)) ggX2_addVariant_X2_turned
set_option maxRecDepth 20000 in
theorem ggX2_addVariant_X0_write : GoodIn wsX2_addVariant wsX0_write := goodIn_r _ [34, 35, 36, 37, 38, 39, 40, 41, 46, 47, 48, 49, 50, 51, 52] (by decide +kernel) (by decide +kernel)
set_option maxRecDepth 20000 in
theorem gX2_addVariant_X0_write : GoodIn wsX2_addVariant (wsV RX2 43 RX0 yX0_write wsX0_write) := goodIn_app (goodIn_of _ (by decide +kernel)) ggX2_addVariant_X0_write
theorem dX2_addVariant_0 : decode cX2_addVariant 0 = .ok (.aload_n 0, 1) := by decide +kernel
theorem dX2_addVariant_1 : decode cX2_addVariant 1 = .ok (.iload_n 1, 1) := by decide +kernel
theorem dX2_addVariant_2 : decode cX2_addVariant 2 = .ok (.invokevirtual 47, 3) := by decide +kernel
theorem dX2_addVariant_5 : decode cX2_addVariant 5 = .ok (.iload_n 2, 1) := by decide +kernel
theorem dX2_addVariant_6 : decode cX2_addVariant 6 = .ok (.invokestatic 34, 3) := by decide +kernel
theorem dX2_addVariant_9 : decode cX2_addVariant 9 = .ok (.iload_n 3, 1) := by decide +kernel
theorem dX2_addVariant_10 : decode cX2_addVariant 10 = .ok (.invokestatic 34, 3) := by decide +kernel
theorem dX2_addVariant_13 : decode cX2_addVariant 13 = .ok (.iload 4, 2) := by decide +kernel
theorem dX2_addVariant_15 : decode cX2_addVariant 15 = .ok (.invokestatic 37, 3) := by decide +kernel
theorem dX2_addVariant_18 : decode cX2_addVariant 18 = .ok (.aload_n 0, 1) := by decide +kernel
theorem dX2_addVariant_19 : decode cX2_addVariant 19 = .ok (.invokevirtual 40, 3) := by decide +kernel
theorem dX2_addVariant_22 : decode cX2_addVariant 22 = .ok (.aload_n 0, 1) := by decide +kernel
theorem dX2_addVariant_23 : decode cX2_addVariant 23 = .ok (.getfield 10, 3) := by decide +kernel
theorem dX2_addVariant_26 : decode cX2_addVariant 26 = .ok (.getfield 50, 3) := by decide +kernel
theorem dX2_addVariant_29 : decode cX2_addVariant 29 = .ok (.iload_n 1, 1) := by decide +kernel
theorem dX2_addVariant_30 : decode cX2_addVariant 30 = .ok (.iaload, 1) := by decide +kernel
theorem dX2_addVariant_31 : decode cX2_addVariant 31 = .ok (.istore 5, 2) := by decide +kernel
theorem dX2_addVariant_33 : decode cX2_addVariant 33 = .ok (.iload 5, 2) := by decide +kernel
theorem dX2_addVariant_35 : decode cX2_addVariant 35 = .ok (.iload_n 2, 1) := by decide +kernel
theorem dX2_addVariant_36 : decode cX2_addVariant 36 = .ok (.invokestatic 54, 3) := by decide +kernel
theorem dX2_addVariant_39 : decode cX2_addVariant 39 = .ok (.ifCond .ne 13, 3) := by decide +kernel
theorem dX2_addVariant_42 : decode cX2_addVariant 42 = .ok (.new 58, 3) := by decide +kernel
theorem dX2_addVariant_45 : decode cX2_addVariant 45 = .ok (.dup, 1) := by decide +kernel
theorem dX2_addVariant_46 : decode cX2_addVariant 46 = .ok (.ldc 74, 2) := by decide +kernel
theorem dX2_addVariant_48 : decode cX2_addVariant 48 = .ok (.invokespecial 62, 3) := by decide +kernel
theorem dX2_addVariant_51 : decode cX2_addVariant 51 = .ok (.athrow, 1) := by decide +kernel
theorem dX2_addVariant_52 : decode cX2_addVariant 52 = .ok (.iload 5, 2) := by decide +kernel
theorem dX2_addVariant_54 : decode cX2_addVariant 54 = .ok (.iload_n 3, 1) := by decide +kernel
theorem dX2_addVariant_55 : decode cX2_addVariant 55 = .ok (.invokestatic 54, 3) := by decide +kernel
theorem dX2_addVariant_58 : decode cX2_addVariant 58 = .ok (.ifCond .eq 13, 3) := by decide +kernel
theorem dX2_addVariant_61 : decode cX2_addVariant 61 = .ok (.new 58, 3) := by decide +kernel
theorem dX2_addVariant_64 : decode cX2_addVariant 64 = .ok (.dup, 1) := by decide +kernel
theorem dX2_addVariant_65 : decode cX2_addVariant 65 = .ok (.ldc 76, 2) := by decide +kernel
theorem dX2_addVariant_67 : decode cX2_addVariant 67 = .ok (.invokespecial 62, 3) := by decide +kernel
theorem dX2_addVariant_70 : decode cX2_addVariant 70 = .ok (.athrow, 1) := by decide +kernel
theorem dX2_addVariant_71 : decode cX2_addVariant 71 = .ok (.aload_n 0, 1) := by decide +kernel
theorem dX2_addVariant_72 : decode cX2_addVariant 72 = .ok (.getfield 10, 3) := by decide +kernel
theorem dX2_addVariant_75 : decode cX2_addVariant 75 = .ok (.aload_n 0, 1) := by decide +kernel
theorem dX2_addVariant_76 : decode cX2_addVariant 76 = .ok (.getfield 10, 3) := by decide +kernel
theorem dX2_addVariant_79 : decode cX2_addVariant 79 = .ok (.getfield 78, 3) := by decide +kernel
theorem dX2_addVariant_82 : decode cX2_addVariant 82 = .ok (.iload_n 1, 1) := by decide +kernel
theorem dX2_addVariant_83 : decode cX2_addVariant 83 = .ok (.iaload, 1) := by decide +kernel
theorem dX2_addVariant_84 : decode cX2_addVariant 84 = .ok (.iload 5, 2) := by decide +kernel
theorem dX2_addVariant_86 : decode cX2_addVariant 86 = .ok (.iload_n 2, 1) := by decide +kernel
theorem dX2_addVariant_87 : decode cX2_addVariant 87 = .ok (.invokestatic 81, 3) := by decide +kernel
theorem dX2_addVariant_90 : decode cX2_addVariant 90 = .ok (.iload_n 3, 1) := by decide +kernel
theorem dX2_addVariant_91 : decode cX2_addVariant 91 = .ok (.invokestatic 81, 3) := by decide +kernel
theorem dX2_addVariant_94 : decode cX2_addVariant 94 = .ok (.iload 4, 2) := by decide +kernel
theorem dX2_addVariant_96 : decode cX2_addVariant 96 = .ok (.iload_n 1, 1) := by decide +kernel
theorem dX2_addVariant_97 : decode cX2_addVariant 97 = .ok (.invokevirtual 43, 3) := by decide +kernel
theorem dX2_addVariant_100 : decode cX2_addVariant 100 = .ok (.ireturn, 1) := by decide +kernel
set_option maxRecDepth 20000 in
theorem ggX2_turnPass_X2_needValley : GoodIn wsX2_turnPass wsX2_needValley := goodIn_ca (goodIn_r _ [8, 9, 10] (by decide +kernel) (by decide +kernel)) (goodIn_sub (fun _ h => List.mem_cons_of_mem _ (List.mem_append_right _ h)) (by decide +kernel))
set_option maxRecDepth 20000 in
theorem gX2_turnPass_X2_needValley : GoodIn wsX2_turnPass (va_wsS RX2 37 yX2_needValley wsX2_needValley) := goodIn_app (goodIn_of _ (by decide +kernel)) ggX2_turnPass_X2_needValley
set_option maxRecDepth 20000 in
theorem ggX2_turnPass_X1_turnWay : GoodIn wsX2_turnPass wsX1_turnWay := goodIn_r _ [15, 16, 17, 7, 18, 26, 27, 28, 29, 30, 31, 32] (by decide +kernel) (by decide +kernel)
set_option maxRecDepth 20000 in
theorem gX2_turnPass_X1_turnWay : GoodIn wsX2_turnPass (wsV RX2 90 RX1 yX1_turnWay wsX1_turnWay) := goodIn_app (goodIn_of _ (by decide +kernel)) ggX2_turnPass_X1_turnWay
set_option maxRecDepth 20000 in
theorem ggX2_turnPass_X2_has : GoodIn wsX2_turnPass wsX2_has := goodIn_r _ [21] (by decide +kernel) (by decide +kernel)
set_option maxRecDepth 20000 in
theorem gX2_turnPass_X2_has : GoodIn wsX2_turnPass (va_wsS RX2 54 yX2_has wsX2_has) := goodIn_app (goodIn_of _ (by decide +kernel)) ggX2_turnPass_X2_has
theorem dX2_turnPass_0 : decode cX2_turnPass 0 = .ok (.iload_n 1, 1) := by decide +kernel
theorem dX2_turnPass_1 : decode cX2_turnPass 1 = .ok (.invokestatic 37, 3) := by decide +kernel
theorem dX2_turnPass_4 : decode cX2_turnPass 4 = .ok (.iload_n 2, 1) := by decide +kernel
theorem dX2_turnPass_5 : decode cX2_turnPass 5 = .ok (.invokestatic 37, 3) := by decide +kernel
theorem dX2_turnPass_8 : decode cX2_turnPass 8 = .ok (.iload_n 1, 1) := by decide +kernel
theorem dX2_turnPass_9 : decode cX2_turnPass 9 = .ok (.iload_n 2, 1) := by decide +kernel
theorem dX2_turnPass_10 : decode cX2_turnPass 10 = .ok (.if_icmp .ne 13, 3) := by decide +kernel
theorem dX2_turnPass_13 : decode cX2_turnPass 13 = .ok (.new 85, 3) := by decide +kernel
theorem dX2_turnPass_16 : decode cX2_turnPass 16 = .ok (.dup, 1) := by decide +kernel
theorem dX2_turnPass_17 : decode cX2_turnPass 17 = .ok (.ldc 87, 2) := by decide +kernel
theorem dX2_turnPass_19 : decode cX2_turnPass 19 = .ok (.invokespecial 89, 3) := by decide +kernel
theorem dX2_turnPass_22 : decode cX2_turnPass 22 = .ok (.athrow, 1) := by decide +kernel
theorem dX2_turnPass_23 : decode cX2_turnPass 23 = .ok (.aload_n 0, 1) := by decide +kernel
theorem dX2_turnPass_24 : decode cX2_turnPass 24 = .ok (.getfield 19, 3) := by decide +kernel
theorem dX2_turnPass_27 : decode cX2_turnPass 27 = .ok (.iload_n 1, 1) := by decide +kernel
theorem dX2_turnPass_28 : decode cX2_turnPass 28 = .ok (.iload_n 2, 1) := by decide +kernel
theorem dX2_turnPass_29 : decode cX2_turnPass 29 = .ok (.invokevirtual 90, 3) := by decide +kernel
theorem dX2_turnPass_32 : decode cX2_turnPass 32 = .ok (.aload_n 0, 1) := by decide +kernel
theorem dX2_turnPass_33 : decode cX2_turnPass 33 = .ok (.getfield 19, 3) := by decide +kernel
theorem dX2_turnPass_36 : decode cX2_turnPass 36 = .ok (.getfield 94, 3) := by decide +kernel
theorem dX2_turnPass_39 : decode cX2_turnPass 39 = .ok (.iload_n 1, 1) := by decide +kernel
theorem dX2_turnPass_40 : decode cX2_turnPass 40 = .ok (.iaload, 1) := by decide +kernel
theorem dX2_turnPass_41 : decode cX2_turnPass 41 = .ok (.iload_n 2, 1) := by decide +kernel
theorem dX2_turnPass_42 : decode cX2_turnPass 42 = .ok (.invokestatic 54, 3) := by decide +kernel
theorem dX2_turnPass_45 : decode cX2_turnPass 45 = .ok (.ireturn, 1) := by decide +kernel
set_option maxRecDepth 20000 in
theorem ggX2_turnMoral_X2_needValley : GoodIn wsX2_turnMoral wsX2_needValley := goodIn_ca (goodIn_r _ [6, 7, 8] (by decide +kernel) (by decide +kernel)) (goodIn_sub (fun _ h => List.mem_cons_of_mem _ (List.mem_append_right _ h)) (by decide +kernel))
set_option maxRecDepth 20000 in
theorem gX2_turnMoral_X2_needValley : GoodIn wsX2_turnMoral (va_wsS RX2 37 yX2_needValley wsX2_needValley) := goodIn_app (goodIn_of _ (by decide +kernel)) ggX2_turnMoral_X2_needValley
set_option maxRecDepth 20000 in
theorem ggX2_turnMoral_X2_needMoral : GoodIn wsX2_turnMoral wsX2_needMoral := goodIn_ca (goodIn_r _ [11, 7, 8] (by decide +kernel) (by decide +kernel)) (goodIn_sub (fun _ h => List.mem_cons_of_mem _ (List.mem_append_right _ h)) (by decide +kernel))
set_option maxRecDepth 20000 in
theorem gX2_turnMoral_X2_needMoral : GoodIn wsX2_turnMoral (va_wsS RX2 30 yX2_needMoral wsX2_needMoral) := goodIn_app (goodIn_of _ (by decide +kernel)) ggX2_turnMoral_X2_needMoral
set_option maxRecDepth 20000 in
theorem ggX2_turnMoral_X2_turned : GoodIn wsX2_turnMoral wsX2_turned := goodIn_r _ [14] (by decide +kernel) (by decide +kernel)
set_option maxRecDepth 20000 in
theorem gX2_turnMoral_X2_turned : GoodIn wsX2_turnMoral (va_wsS RX2 81 yX2_turned wsX2_turned) := goodIn_app (goodIn_of _ (by decide +kernel)) ggX2_turnMoral_X2_turned
set_option maxRecDepth 20000 in
theorem ggX2_turnMoral_X2_has : GoodIn wsX2_turnMoral wsX2_has := goodIn_r _ [17] (by decide +kernel) (by decide +kernel)
set_option maxRecDepth 20000 in
theorem gX2_turnMoral_X2_has : GoodIn wsX2_turnMoral (va_wsS RX2 54 yX2_has wsX2_has) := goodIn_app (goodIn_of _ (by decide +kernel)) ggX2_turnMoral_X2_has
theorem dX2_turnMoral_0 : decode cX2_turnMoral 0 = .ok (.iload_n 1, 1) := by decide +kernel
theorem dX2_turnMoral_1 : decode cX2_turnMoral 1 = .ok (.invokestatic 37, 3) := by decide +kernel
theorem dX2_turnMoral_4 : decode cX2_turnMoral 4 = .ok (.iload_n 2, 1) := by decide +kernel
theorem dX2_turnMoral_5 : decode cX2_turnMoral 5 = .ok (.invokestatic 30, 3) := by decide +kernel
theorem dX2_turnMoral_8 : decode cX2_turnMoral 8 = .ok (.aload_n 0, 1) := by decide +kernel
theorem dX2_turnMoral_9 : decode cX2_turnMoral 9 = .ok (.getfield 19, 3) := by decide +kernel
theorem dX2_turnMoral_12 : decode cX2_turnMoral 12 = .ok (.getfield 97, 3) := by decide +kernel
theorem dX2_turnMoral_15 : decode cX2_turnMoral 15 = .ok (.iload_n 1, 1) := by decide +kernel
theorem dX2_turnMoral_16 : decode cX2_turnMoral 16 = .ok (.aload_n 0, 1) := by decide +kernel
theorem dX2_turnMoral_17 : decode cX2_turnMoral 17 = .ok (.getfield 19, 3) := by decide +kernel
theorem dX2_turnMoral_20 : decode cX2_turnMoral 20 = .ok (.getfield 97, 3) := by decide +kernel
theorem dX2_turnMoral_23 : decode cX2_turnMoral 23 = .ok (.iload_n 1, 1) := by decide +kernel
theorem dX2_turnMoral_24 : decode cX2_turnMoral 24 = .ok (.iaload, 1) := by decide +kernel
theorem dX2_turnMoral_25 : decode cX2_turnMoral 25 = .ok (.iload_n 2, 1) := by decide +kernel
theorem dX2_turnMoral_26 : decode cX2_turnMoral 26 = .ok (.invokestatic 81, 3) := by decide +kernel
theorem dX2_turnMoral_29 : decode cX2_turnMoral 29 = .ok (.iastore, 1) := by decide +kernel
theorem dX2_turnMoral_30 : decode cX2_turnMoral 30 = .ok (.aload_n 0, 1) := by decide +kernel
theorem dX2_turnMoral_31 : decode cX2_turnMoral 31 = .ok (.getfield 19, 3) := by decide +kernel
theorem dX2_turnMoral_34 : decode cX2_turnMoral 34 = .ok (.getfield 97, 3) := by decide +kernel
theorem dX2_turnMoral_37 : decode cX2_turnMoral 37 = .ok (.iload_n 1, 1) := by decide +kernel
theorem dX2_turnMoral_38 : decode cX2_turnMoral 38 = .ok (.iaload, 1) := by decide +kernel
theorem dX2_turnMoral_39 : decode cX2_turnMoral 39 = .ok (.iload_n 2, 1) := by decide +kernel
theorem dX2_turnMoral_40 : decode cX2_turnMoral 40 = .ok (.invokestatic 54, 3) := by decide +kernel
theorem dX2_turnMoral_43 : decode cX2_turnMoral 43 = .ok (.ireturn, 1) := by decide +kernel
set_option maxRecDepth 20000 in
theorem ggX2_turnBeast_X2_needValley : GoodIn wsX2_turnBeast wsX2_needValley := goodIn_ca (goodIn_r _ [6, 7, 8] (by decide +kernel) (by decide +kernel)) (goodIn_sub (fun _ h => List.mem_cons_of_mem _ (List.mem_append_right _ h)) (by decide +kernel))
set_option maxRecDepth 20000 in
theorem gX2_turnBeast_X2_needValley : GoodIn wsX2_turnBeast (va_wsS RX2 37 yX2_needValley wsX2_needValley) := goodIn_app (goodIn_of _ (by decide +kernel)) ggX2_turnBeast_X2_needValley
set_option maxRecDepth 20000 in
theorem ggX2_turnBeast_X2_needBeast : GoodIn wsX2_turnBeast wsX2_needBeast := goodIn_ca (goodIn_r _ [11, 7, 8] (by decide +kernel) (by decide +kernel)) (goodIn_sub (fun _ h => List.mem_cons_of_mem _ (List.mem_append_right _ h)) (by decide +kernel))
set_option maxRecDepth 20000 in
theorem gX2_turnBeast_X2_needBeast : GoodIn wsX2_turnBeast (va_wsS RX2 34 yX2_needBeast wsX2_needBeast) := goodIn_app (goodIn_of _ (by decide +kernel)) ggX2_turnBeast_X2_needBeast
set_option maxRecDepth 20000 in
theorem ggX2_turnBeast_X2_turned : GoodIn wsX2_turnBeast wsX2_turned := goodIn_r _ [14] (by decide +kernel) (by decide +kernel)
set_option maxRecDepth 20000 in
theorem gX2_turnBeast_X2_turned : GoodIn wsX2_turnBeast (va_wsS RX2 81 yX2_turned wsX2_turned) := goodIn_app (goodIn_of _ (by decide +kernel)) ggX2_turnBeast_X2_turned
set_option maxRecDepth 20000 in
theorem ggX2_turnBeast_X2_has : GoodIn wsX2_turnBeast wsX2_has := goodIn_r _ [17] (by decide +kernel) (by decide +kernel)
set_option maxRecDepth 20000 in
theorem gX2_turnBeast_X2_has : GoodIn wsX2_turnBeast (va_wsS RX2 54 yX2_has wsX2_has) := goodIn_app (goodIn_of _ (by decide +kernel)) ggX2_turnBeast_X2_has
theorem dX2_turnBeast_0 : decode cX2_turnBeast 0 = .ok (.iload_n 1, 1) := by decide +kernel
theorem dX2_turnBeast_1 : decode cX2_turnBeast 1 = .ok (.invokestatic 37, 3) := by decide +kernel
theorem dX2_turnBeast_4 : decode cX2_turnBeast 4 = .ok (.iload_n 2, 1) := by decide +kernel
theorem dX2_turnBeast_5 : decode cX2_turnBeast 5 = .ok (.invokestatic 34, 3) := by decide +kernel
theorem dX2_turnBeast_8 : decode cX2_turnBeast 8 = .ok (.aload_n 0, 1) := by decide +kernel
theorem dX2_turnBeast_9 : decode cX2_turnBeast 9 = .ok (.getfield 19, 3) := by decide +kernel
theorem dX2_turnBeast_12 : decode cX2_turnBeast 12 = .ok (.getfield 100, 3) := by decide +kernel
theorem dX2_turnBeast_15 : decode cX2_turnBeast 15 = .ok (.iload_n 1, 1) := by decide +kernel
theorem dX2_turnBeast_16 : decode cX2_turnBeast 16 = .ok (.aload_n 0, 1) := by decide +kernel
theorem dX2_turnBeast_17 : decode cX2_turnBeast 17 = .ok (.getfield 19, 3) := by decide +kernel
theorem dX2_turnBeast_20 : decode cX2_turnBeast 20 = .ok (.getfield 100, 3) := by decide +kernel
theorem dX2_turnBeast_23 : decode cX2_turnBeast 23 = .ok (.iload_n 1, 1) := by decide +kernel
theorem dX2_turnBeast_24 : decode cX2_turnBeast 24 = .ok (.iaload, 1) := by decide +kernel
theorem dX2_turnBeast_25 : decode cX2_turnBeast 25 = .ok (.iload_n 2, 1) := by decide +kernel
theorem dX2_turnBeast_26 : decode cX2_turnBeast 26 = .ok (.invokestatic 81, 3) := by decide +kernel
theorem dX2_turnBeast_29 : decode cX2_turnBeast 29 = .ok (.iastore, 1) := by decide +kernel
theorem dX2_turnBeast_30 : decode cX2_turnBeast 30 = .ok (.aload_n 0, 1) := by decide +kernel
theorem dX2_turnBeast_31 : decode cX2_turnBeast 31 = .ok (.getfield 19, 3) := by decide +kernel
theorem dX2_turnBeast_34 : decode cX2_turnBeast 34 = .ok (.getfield 100, 3) := by decide +kernel
theorem dX2_turnBeast_37 : decode cX2_turnBeast 37 = .ok (.iload_n 1, 1) := by decide +kernel
theorem dX2_turnBeast_38 : decode cX2_turnBeast 38 = .ok (.iaload, 1) := by decide +kernel
theorem dX2_turnBeast_39 : decode cX2_turnBeast 39 = .ok (.iload_n 2, 1) := by decide +kernel
theorem dX2_turnBeast_40 : decode cX2_turnBeast 40 = .ok (.invokestatic 54, 3) := by decide +kernel
theorem dX2_turnBeast_43 : decode cX2_turnBeast 43 = .ok (.ireturn, 1) := by decide +kernel
set_option maxRecDepth 20000 in
theorem ggX2_tell_X2_needFable : GoodIn wsX2_tell wsX2_needFable := goodIn_ca (goodIn_r _ [10, 11, 12, 5, 13, 43, 44, 45, 46, 54, 55, 56, 57, 58, 59, 60] (by decide +kernel) (by decide +kernel)) (goodIn_sub (fun _ h => List.mem_cons_of_mem _ (List.mem_append_right _ h)) (by decide +kernel))
set_option maxRecDepth 20000 in
theorem gX2_tell_X2_needFable : GoodIn wsX2_tell (wsV RX2 47 RX2 yX2_needFable wsX2_needFable) := goodIn_app (goodIn_of _ (by decide +kernel)) ggX2_tell_X2_needFable
set_option maxRecDepth 20000 in
theorem ggX2_tell_X2_needValley : GoodIn wsX2_tell wsX2_needValley := goodIn_ca (goodIn_r _ [16, 11, 12] (by decide +kernel) (by decide +kernel)) (goodIn_sub (fun _ h => List.mem_cons_of_mem _ (List.mem_append_right _ h)) (by decide +kernel))
set_option maxRecDepth 20000 in
theorem gX2_tell_X2_needValley : GoodIn wsX2_tell (va_wsS RX2 37 yX2_needValley wsX2_needValley) := goodIn_app (goodIn_of _ (by decide +kernel)) ggX2_tell_X2_needValley
set_option maxRecDepth 20000 in
theorem ggX2_tell_X2_has : GoodIn wsX2_tell wsX2_has := goodIn_r _ [19] (by decide +kernel) (by decide +kernel)
set_option maxRecDepth 20000 in
theorem gX2_tell_X2_has : GoodIn wsX2_tell (va_wsS RX2 54 yX2_has wsX2_has) := goodIn_app (goodIn_of _ (by decide +kernel)) ggX2_tell_X2_has
set_option maxRecDepth 20000 in
theorem ggX2_tell_X1_bans : GoodIn wsX2_tell wsX1_bans := goodIn_r _ [24, 25, 26, 27, 28, 18, 9, 19, 47, 48, 49, 50, 51, 52, 53, 54, 55, 56, 57, 58, 59, 60] (by decide +kernel) (by decide +kernel)
set_option maxRecDepth 20000 in
theorem gX2_tell_X1_bans : GoodIn wsX2_tell (wsV RX2 108 RX1 yX1_bans wsX1_bans) := goodIn_app (goodIn_of _ (by decide +kernel)) ggX2_tell_X1_bans
set_option maxRecDepth 20000 in
theorem ggX2_tell_X1_count : GoodIn wsX2_tell wsX1_count := goodIn_r _ [32, 33, 34, 9, 35, 36, 37, 38, 39, 40, 41, 42, 47, 48, 49, 50, 51, 52, 53] (by decide +kernel) (by decide +kernel)
set_option maxRecDepth 20000 in
theorem gX2_tell_X1_count : GoodIn wsX2_tell (wsV RX2 114 RX1 yX1_count wsX1_count) := goodIn_app (goodIn_of _ (by decide +kernel)) ggX2_tell_X1_count
end
section
theorem dX2_tell_0 : decode cX2_tell 0 = .ok (.aload_n 0, 1) := by decide +kernel
theorem dX2_tell_1 : decode cX2_tell 1 = .ok (.iload_n 1, 1) := by decide +kernel
theorem dX2_tell_2 : decode cX2_tell 2 = .ok (.invokevirtual 47, 3) := by decide +kernel
theorem dX2_tell_5 : decode cX2_tell 5 = .ok (.iload_n 2, 1) := by decide +kernel
theorem dX2_tell_6 : decode cX2_tell 6 = .ok (.invokestatic 37, 3) := by decide +kernel
theorem dX2_tell_9 : decode cX2_tell 9 = .ok (.aload_n 0, 1) := by decide +kernel
theorem dX2_tell_10 : decode cX2_tell 10 = .ok (.getfield 19, 3) := by decide +kernel
theorem dX2_tell_13 : decode cX2_tell 13 = .ok (.getfield 103, 3) := by decide +kernel
theorem dX2_tell_16 : decode cX2_tell 16 = .ok (.iload_n 2, 1) := by decide +kernel
theorem dX2_tell_17 : decode cX2_tell 17 = .ok (.iaload, 1) := by decide +kernel
theorem dX2_tell_18 : decode cX2_tell 18 = .ok (.iload_n 1, 1) := by decide +kernel
theorem dX2_tell_19 : decode cX2_tell 19 = .ok (.invokestatic 54, 3) := by decide +kernel
theorem dX2_tell_22 : decode cX2_tell 22 = .ok (.ifCond .eq 13, 3) := by decide +kernel
theorem dX2_tell_25 : decode cX2_tell 25 = .ok (.new 58, 3) := by decide +kernel
theorem dX2_tell_28 : decode cX2_tell 28 = .ok (.dup, 1) := by decide +kernel
theorem dX2_tell_29 : decode cX2_tell 29 = .ok (.ldc 106, 2) := by decide +kernel
theorem dX2_tell_31 : decode cX2_tell 31 = .ok (.invokespecial 62, 3) := by decide +kernel
theorem dX2_tell_34 : decode cX2_tell 34 = .ok (.athrow, 1) := by decide +kernel
theorem dX2_tell_35 : decode cX2_tell 35 = .ok (.aload_n 0, 1) := by decide +kernel
theorem dX2_tell_36 : decode cX2_tell 36 = .ok (.getfield 19, 3) := by decide +kernel
theorem dX2_tell_39 : decode cX2_tell 39 = .ok (.aload_n 0, 1) := by decide +kernel
theorem dX2_tell_40 : decode cX2_tell 40 = .ok (.getfield 10, 3) := by decide +kernel
theorem dX2_tell_43 : decode cX2_tell 43 = .ok (.iload_n 1, 1) := by decide +kernel
theorem dX2_tell_44 : decode cX2_tell 44 = .ok (.iload_n 2, 1) := by decide +kernel
theorem dX2_tell_45 : decode cX2_tell 45 = .ok (.invokevirtual 108, 3) := by decide +kernel
theorem dX2_tell_48 : decode cX2_tell 48 = .ok (.ifCond .eq 13, 3) := by decide +kernel
theorem dX2_tell_51 : decode cX2_tell 51 = .ok (.new 58, 3) := by decide +kernel
theorem dX2_tell_54 : decode cX2_tell 54 = .ok (.dup, 1) := by decide +kernel
theorem dX2_tell_55 : decode cX2_tell 55 = .ok (.ldc 112, 2) := by decide +kernel
theorem dX2_tell_57 : decode cX2_tell 57 = .ok (.invokespecial 62, 3) := by decide +kernel
theorem dX2_tell_60 : decode cX2_tell 60 = .ok (.athrow, 1) := by decide +kernel
theorem dX2_tell_61 : decode cX2_tell 61 = .ok (.aload_n 0, 1) := by decide +kernel
theorem dX2_tell_62 : decode cX2_tell 62 = .ok (.getfield 19, 3) := by decide +kernel
theorem dX2_tell_65 : decode cX2_tell 65 = .ok (.getfield 103, 3) := by decide +kernel
theorem dX2_tell_68 : decode cX2_tell 68 = .ok (.iload_n 2, 1) := by decide +kernel
theorem dX2_tell_69 : decode cX2_tell 69 = .ok (.dup2, 1) := by decide +kernel
theorem dX2_tell_70 : decode cX2_tell 70 = .ok (.iaload, 1) := by decide +kernel
theorem dX2_tell_71 : decode cX2_tell 71 = .ok (.iconst 1, 1) := by decide +kernel
theorem dX2_tell_72 : decode cX2_tell 72 = .ok (.iload_n 1, 1) := by decide +kernel
theorem dX2_tell_73 : decode cX2_tell 73 = .ok (.ishl, 1) := by decide +kernel
theorem dX2_tell_74 : decode cX2_tell 74 = .ok (.ior, 1) := by decide +kernel
theorem dX2_tell_75 : decode cX2_tell 75 = .ok (.iastore, 1) := by decide +kernel
theorem dX2_tell_76 : decode cX2_tell 76 = .ok (.aload_n 0, 1) := by decide +kernel
theorem dX2_tell_77 : decode cX2_tell 77 = .ok (.getfield 19, 3) := by decide +kernel
theorem dX2_tell_80 : decode cX2_tell 80 = .ok (.iconst 1, 1) := by decide +kernel
theorem dX2_tell_81 : decode cX2_tell 81 = .ok (.iload_n 1, 1) := by decide +kernel
theorem dX2_tell_82 : decode cX2_tell 82 = .ok (.ishl, 1) := by decide +kernel
theorem dX2_tell_83 : decode cX2_tell 83 = .ok (.invokevirtual 114, 3) := by decide +kernel
theorem dX2_tell_86 : decode cX2_tell 86 = .ok (.ireturn, 1) := by decide +kernel
set_option maxRecDepth 20000 in
theorem ggX2_forget_X2_needFable : GoodIn wsX2_forget wsX2_needFable := goodIn_ca (goodIn_r _ [9, 10, 11, 12, 13, 38, 39, 40, 41, 49, 50, 51, 52, 53, 54, 55] (by decide +kernel) (by decide +kernel)) (goodIn_sub (fun _ h => List.mem_cons_of_mem _ (List.mem_append_right _ h)) (by decide +kernel))
set_option maxRecDepth 20000 in
theorem gX2_forget_X2_needFable : GoodIn wsX2_forget (wsV RX2 47 RX2 yX2_needFable wsX2_needFable) := goodIn_app (goodIn_of _ (by decide +kernel)) ggX2_forget_X2_needFable
set_option maxRecDepth 20000 in
theorem ggX2_forget_X2_needValley : GoodIn wsX2_forget wsX2_needValley := goodIn_ca (goodIn_r _ [16, 10, 11] (by decide +kernel) (by decide +kernel)) (goodIn_sub (fun _ h => List.mem_cons_of_mem _ (List.mem_append_right _ h)) (by decide +kernel))
set_option maxRecDepth 20000 in
theorem gX2_forget_X2_needValley : GoodIn wsX2_forget (va_wsS RX2 37 yX2_needValley wsX2_needValley) := goodIn_app (goodIn_of _ (by decide +kernel)) ggX2_forget_X2_needValley
set_option maxRecDepth 20000 in
theorem ggX2_forget_X2_has : GoodIn wsX2_forget wsX2_has := goodIn_r _ [19] (by decide +kernel) (by decide +kernel)
set_option maxRecDepth 20000 in
theorem gX2_forget_X2_has : GoodIn wsX2_forget (va_wsS RX2 54 yX2_has wsX2_has) := goodIn_app (goodIn_of _ (by decide +kernel)) ggX2_forget_X2_has
set_option maxRecDepth 20000 in
theorem ggX2_forget_X2_turned : GoodIn wsX2_forget wsX2_turned := goodIn_r _ [22] (by decide +kernel) (by decide +kernel)
set_option maxRecDepth 20000 in
theorem gX2_forget_X2_turned : GoodIn wsX2_forget (va_wsS RX2 81 yX2_turned wsX2_turned) := goodIn_app (goodIn_of _ (by decide +kernel)) ggX2_forget_X2_turned
set_option maxRecDepth 20000 in
theorem ggX2_forget_X1_count : GoodIn wsX2_forget wsX1_count := goodIn_r _ [27, 28, 29, 8, 30, 31, 32, 33, 34, 35, 36, 37, 42, 43, 44, 45, 46, 47, 48] (by decide +kernel) (by decide +kernel)
set_option maxRecDepth 20000 in
theorem gX2_forget_X1_count : GoodIn wsX2_forget (wsV RX2 114 RX1 yX1_count wsX1_count) := goodIn_app (goodIn_of _ (by decide +kernel)) ggX2_forget_X1_count
theorem dX2_forget_0 : decode cX2_forget 0 = .ok (.aload_n 0, 1) := by decide +kernel
theorem dX2_forget_1 : decode cX2_forget 1 = .ok (.iload_n 1, 1) := by decide +kernel
theorem dX2_forget_2 : decode cX2_forget 2 = .ok (.invokevirtual 47, 3) := by decide +kernel
theorem dX2_forget_5 : decode cX2_forget 5 = .ok (.iload_n 2, 1) := by decide +kernel
theorem dX2_forget_6 : decode cX2_forget 6 = .ok (.invokestatic 37, 3) := by decide +kernel
theorem dX2_forget_9 : decode cX2_forget 9 = .ok (.aload_n 0, 1) := by decide +kernel
theorem dX2_forget_10 : decode cX2_forget 10 = .ok (.getfield 19, 3) := by decide +kernel
theorem dX2_forget_13 : decode cX2_forget 13 = .ok (.getfield 103, 3) := by decide +kernel
theorem dX2_forget_16 : decode cX2_forget 16 = .ok (.iload_n 2, 1) := by decide +kernel
theorem dX2_forget_17 : decode cX2_forget 17 = .ok (.iaload, 1) := by decide +kernel
theorem dX2_forget_18 : decode cX2_forget 18 = .ok (.iload_n 1, 1) := by decide +kernel
theorem dX2_forget_19 : decode cX2_forget 19 = .ok (.invokestatic 54, 3) := by decide +kernel
theorem dX2_forget_22 : decode cX2_forget 22 = .ok (.ifCond .ne 13, 3) := by decide +kernel
theorem dX2_forget_25 : decode cX2_forget 25 = .ok (.new 58, 3) := by decide +kernel
theorem dX2_forget_28 : decode cX2_forget 28 = .ok (.dup, 1) := by decide +kernel
theorem dX2_forget_29 : decode cX2_forget 29 = .ok (.ldc 117, 2) := by decide +kernel
theorem dX2_forget_31 : decode cX2_forget 31 = .ok (.invokespecial 62, 3) := by decide +kernel
theorem dX2_forget_34 : decode cX2_forget 34 = .ok (.athrow, 1) := by decide +kernel
theorem dX2_forget_35 : decode cX2_forget 35 = .ok (.aload_n 0, 1) := by decide +kernel
theorem dX2_forget_36 : decode cX2_forget 36 = .ok (.getfield 19, 3) := by decide +kernel
theorem dX2_forget_39 : decode cX2_forget 39 = .ok (.getfield 103, 3) := by decide +kernel
theorem dX2_forget_42 : decode cX2_forget 42 = .ok (.iload_n 2, 1) := by decide +kernel
theorem dX2_forget_43 : decode cX2_forget 43 = .ok (.aload_n 0, 1) := by decide +kernel
theorem dX2_forget_44 : decode cX2_forget 44 = .ok (.getfield 19, 3) := by decide +kernel
theorem dX2_forget_47 : decode cX2_forget 47 = .ok (.getfield 103, 3) := by decide +kernel
theorem dX2_forget_50 : decode cX2_forget 50 = .ok (.iload_n 2, 1) := by decide +kernel
theorem dX2_forget_51 : decode cX2_forget 51 = .ok (.iaload, 1) := by decide +kernel
theorem dX2_forget_52 : decode cX2_forget 52 = .ok (.iload_n 1, 1) := by decide +kernel
theorem dX2_forget_53 : decode cX2_forget 53 = .ok (.invokestatic 81, 3) := by decide +kernel
theorem dX2_forget_56 : decode cX2_forget 56 = .ok (.iastore, 1) := by decide +kernel
theorem dX2_forget_57 : decode cX2_forget 57 = .ok (.aload_n 0, 1) := by decide +kernel
theorem dX2_forget_58 : decode cX2_forget 58 = .ok (.getfield 19, 3) := by decide +kernel
theorem dX2_forget_61 : decode cX2_forget 61 = .ok (.iconst 1, 1) := by decide +kernel
theorem dX2_forget_62 : decode cX2_forget 62 = .ok (.iload_n 1, 1) := by decide +kernel
theorem dX2_forget_63 : decode cX2_forget 63 = .ok (.ishl, 1) := by decide +kernel
theorem dX2_forget_64 : decode cX2_forget 64 = .ok (.invokevirtual 114, 3) := by decide +kernel
theorem dX2_forget_67 : decode cX2_forget 67 = .ok (.ireturn, 1) := by decide +kernel
set_option maxRecDepth 20000 in
theorem ggX2_passSeasons_X2_needSeasons : GoodIn wsX2_passSeasons wsX2_needSeasons := goodIn_ca (goodIn_r _ [7, 8, 9] (by decide +kernel) (by decide +kernel)) (goodIn_sub (fun _ h => List.mem_cons_of_mem _ (List.mem_append_right _ h)) (by decide +kernel))
set_option maxRecDepth 20000 in
theorem gX2_passSeasons_X2_needSeasons : GoodIn wsX2_passSeasons (va_wsS RX2 119 yX2_needSeasons wsX2_needSeasons) := goodIn_app (goodIn_of _ (by decide +kernel)) ggX2_passSeasons_X2_needSeasons
set_option maxRecDepth 20000 in
theorem ggX2_passSeasons_X1_live : GoodIn wsX2_passSeasons wsX1_live := goodIn_r _ [14, 15, 16, 17, 18, 13, 19, 20, 21, 22, 23, 24, 25, 26, 27, 28, 29, 6, 30, 31, 32, 33, 34, 35, 36, 37, 38, 39, 40, 41, 42, 43, 44, 45, 46, 47, 48, 49, 50, 51, 52, 53, 54, 55, 56, 57, 58, 59, 60, 61, 62, 77, 78, 79, 80, 81, 82, 83, 84, 85, 86, 87, 88, 89, 90] (by decide +kernel) (by decide +kernel)
set_option maxRecDepth 20000 in
theorem gX2_passSeasons_X1_live : GoodIn wsX2_passSeasons (wsV RX2 122 RX1 yX1_live wsX1_live) := goodIn_app (goodIn_of _ (by decide +kernel)) ggX2_passSeasons_X1_live
set_option maxRecDepth 20000 in
theorem ggX2_passSeasons_X0_all : GoodIn wsX2_passSeasons wsX0_all := goodIn_r _ [67, 68, 84, 85, 86, 87, 88, 89, 90] (by decide +kernel) (by decide +kernel)
set_option maxRecDepth 20000 in
theorem gX2_passSeasons_X0_all : GoodIn wsX2_passSeasons (wsV RX2 126 RX0 yX0_all wsX0_all) := goodIn_app (goodIn_of _ (by decide +kernel)) ggX2_passSeasons_X0_all
set_option maxRecDepth 20000 in
theorem ggX2_passSeasons_X1_count : GoodIn wsX2_passSeasons wsX1_count := goodIn_r _ [72, 36, 38, 6, 39, 40, 41, 42, 43, 44, 45, 46, 77, 78, 79, 80, 81, 82, 83] (by decide +kernel) (by decide +kernel)
set_option maxRecDepth 20000 in
theorem gX2_passSeasons_X1_count : GoodIn wsX2_passSeasons (wsV RX2 114 RX1 yX1_count wsX1_count) := goodIn_app (goodIn_of _ (by decide +kernel)) ggX2_passSeasons_X1_count
theorem dX2_passSeasons_0 : decode cX2_passSeasons 0 = .ok (.iload_n 1, 1) := by decide +kernel
theorem dX2_passSeasons_1 : decode cX2_passSeasons 1 = .ok (.bipush 40, 2) := by decide +kernel
theorem dX2_passSeasons_3 : decode cX2_passSeasons 3 = .ok (.invokestatic 119, 3) := by decide +kernel
theorem dX2_passSeasons_6 : decode cX2_passSeasons 6 = .ok (.aload_n 0, 1) := by decide +kernel
theorem dX2_passSeasons_7 : decode cX2_passSeasons 7 = .ok (.getfield 19, 3) := by decide +kernel
theorem dX2_passSeasons_10 : decode cX2_passSeasons 10 = .ok (.aload_n 0, 1) := by decide +kernel
theorem dX2_passSeasons_11 : decode cX2_passSeasons 11 = .ok (.getfield 10, 3) := by decide +kernel
theorem dX2_passSeasons_14 : decode cX2_passSeasons 14 = .ok (.iload_n 1, 1) := by decide +kernel
theorem dX2_passSeasons_15 : decode cX2_passSeasons 15 = .ok (.invokevirtual 122, 3) := by decide +kernel
theorem dX2_passSeasons_18 : decode cX2_passSeasons 18 = .ok (.aload_n 0, 1) := by decide +kernel
theorem dX2_passSeasons_19 : decode cX2_passSeasons 19 = .ok (.dup, 1) := by decide +kernel
theorem dX2_passSeasons_20 : decode cX2_passSeasons 20 = .ok (.getfield 26, 3) := by decide +kernel
theorem dX2_passSeasons_23 : decode cX2_passSeasons 23 = .ok (.iload_n 1, 1) := by decide +kernel
theorem dX2_passSeasons_24 : decode cX2_passSeasons 24 = .ok (.iadd, 1) := by decide +kernel
theorem dX2_passSeasons_25 : decode cX2_passSeasons 25 = .ok (.putfield 26, 3) := by decide +kernel
theorem dX2_passSeasons_28 : decode cX2_passSeasons 28 = .ok (.aload_n 0, 1) := by decide +kernel
theorem dX2_passSeasons_29 : decode cX2_passSeasons 29 = .ok (.getfield 19, 3) := by decide +kernel
theorem dX2_passSeasons_32 : decode cX2_passSeasons 32 = .ok (.aload_n 0, 1) := by decide +kernel
theorem dX2_passSeasons_33 : decode cX2_passSeasons 33 = .ok (.getfield 10, 3) := by decide +kernel
theorem dX2_passSeasons_36 : decode cX2_passSeasons 36 = .ok (.invokevirtual 126, 3) := by decide +kernel
theorem dX2_passSeasons_39 : decode cX2_passSeasons 39 = .ok (.invokevirtual 114, 3) := by decide +kernel
theorem dX2_passSeasons_42 : decode cX2_passSeasons 42 = .ok (.ireturn, 1) := by decide +kernel
set_option maxRecDepth 20000 in
theorem ggX2_moralOf_X2_needFable : GoodIn wsX2_moralOf wsX2_needFable := goodIn_ca (goodIn_r _ [7, 8, 9, 1, 10, 11, 12, 13, 14, 15, 16, 17, 18, 19, 20, 21] (by decide +kernel) (by decide +kernel)) (goodIn_sub (fun _ h => List.mem_cons_of_mem _ (List.mem_append_right _ h)) (by decide +kernel))
set_option maxRecDepth 20000 in
theorem gX2_moralOf_X2_needFable : GoodIn wsX2_moralOf (wsV RX2 47 RX2 yX2_needFable wsX2_needFable) := goodIn_app (goodIn_of _ (by decide +kernel)) ggX2_moralOf_X2_needFable
theorem dX2_moralOf_0 : decode cX2_moralOf 0 = .ok (.aload_n 0, 1) := by decide +kernel
theorem dX2_moralOf_1 : decode cX2_moralOf 1 = .ok (.iload_n 1, 1) := by decide +kernel
theorem dX2_moralOf_2 : decode cX2_moralOf 2 = .ok (.invokevirtual 47, 3) := by decide +kernel
theorem dX2_moralOf_5 : decode cX2_moralOf 5 = .ok (.aload_n 0, 1) := by decide +kernel
theorem dX2_moralOf_6 : decode cX2_moralOf 6 = .ok (.getfield 10, 3) := by decide +kernel
theorem dX2_moralOf_9 : decode cX2_moralOf 9 = .ok (.getfield 78, 3) := by decide +kernel
theorem dX2_moralOf_12 : decode cX2_moralOf 12 = .ok (.iload_n 1, 1) := by decide +kernel
theorem dX2_moralOf_13 : decode cX2_moralOf 13 = .ok (.iaload, 1) := by decide +kernel
theorem dX2_moralOf_14 : decode cX2_moralOf 14 = .ok (.ireturn, 1) := by decide +kernel
set_option maxRecDepth 20000 in
theorem ggX2_beastsOf_X2_needFable : GoodIn wsX2_beastsOf wsX2_needFable := goodIn_ca (goodIn_r _ [7, 8, 9, 1, 10, 21, 22, 23, 24, 25, 26, 27, 28, 29, 30, 31] (by decide +kernel) (by decide +kernel)) (goodIn_sub (fun _ h => List.mem_cons_of_mem _ (List.mem_append_right _ h)) (by decide +kernel))
set_option maxRecDepth 20000 in
theorem gX2_beastsOf_X2_needFable : GoodIn wsX2_beastsOf (wsV RX2 47 RX2 yX2_needFable wsX2_needFable) := goodIn_app (goodIn_of _ (by decide +kernel)) ggX2_beastsOf_X2_needFable
set_option maxRecDepth 20000 in
theorem ggX2_beastsOf_X2_size : GoodIn wsX2_beastsOf wsX2_size := goodIn_r _ [13, 14, 15, 16, 17, 18, 19, 20] (by decide +kernel) (by decide +kernel)
set_option maxRecDepth 20000 in
theorem gX2_beastsOf_X2_size : GoodIn wsX2_beastsOf (va_wsS RX2 70 yX2_size wsX2_size) := goodIn_app (goodIn_of _ (by decide +kernel)) ggX2_beastsOf_X2_size
theorem dX2_beastsOf_0 : decode cX2_beastsOf 0 = .ok (.aload_n 0, 1) := by decide +kernel
theorem dX2_beastsOf_1 : decode cX2_beastsOf 1 = .ok (.iload_n 1, 1) := by decide +kernel
theorem dX2_beastsOf_2 : decode cX2_beastsOf 2 = .ok (.invokevirtual 47, 3) := by decide +kernel
theorem dX2_beastsOf_5 : decode cX2_beastsOf 5 = .ok (.aload_n 0, 1) := by decide +kernel
theorem dX2_beastsOf_6 : decode cX2_beastsOf 6 = .ok (.getfield 10, 3) := by decide +kernel
theorem dX2_beastsOf_9 : decode cX2_beastsOf 9 = .ok (.getfield 50, 3) := by decide +kernel
theorem dX2_beastsOf_12 : decode cX2_beastsOf 12 = .ok (.iload_n 1, 1) := by decide +kernel
theorem dX2_beastsOf_13 : decode cX2_beastsOf 13 = .ok (.iaload, 1) := by decide +kernel
theorem dX2_beastsOf_14 : decode cX2_beastsOf 14 = .ok (.invokestatic 70, 3) := by decide +kernel
theorem dX2_beastsOf_17 : decode cX2_beastsOf 17 = .ok (.ireturn, 1) := by decide +kernel
set_option maxRecDepth 20000 in
theorem ggX2_hasBeast_X2_needFable : GoodIn wsX2_hasBeast wsX2_needFable := goodIn_ca (goodIn_r _ [7, 8, 9, 1, 10, 17, 18, 19, 20, 21, 22, 23, 24, 25, 26, 27] (by decide +kernel) (by decide +kernel)) (goodIn_sub (fun _ h => List.mem_cons_of_mem _ (List.mem_append_right _ h)) (by decide +kernel))
set_option maxRecDepth 20000 in
theorem gX2_hasBeast_X2_needFable : GoodIn wsX2_hasBeast (wsV RX2 47 RX2 yX2_needFable wsX2_needFable) := goodIn_app (goodIn_of _ (by decide +kernel)) ggX2_hasBeast_X2_needFable
set_option maxRecDepth 20000 in
theorem ggX2_hasBeast_X2_needBeast : GoodIn wsX2_hasBeast wsX2_needBeast := goodIn_ca (goodIn_r _ [13, 8, 9] (by decide +kernel) (by decide +kernel)) (goodIn_sub (fun _ h => List.mem_cons_of_mem _ (List.mem_append_right _ h)) (by decide +kernel))
set_option maxRecDepth 20000 in
theorem gX2_hasBeast_X2_needBeast : GoodIn wsX2_hasBeast (va_wsS RX2 34 yX2_needBeast wsX2_needBeast) := goodIn_app (goodIn_of _ (by decide +kernel)) ggX2_hasBeast_X2_needBeast
set_option maxRecDepth 20000 in
theorem ggX2_hasBeast_X2_has : GoodIn wsX2_hasBeast wsX2_has := goodIn_r _ [16] (by decide +kernel) (by decide +kernel)
set_option maxRecDepth 20000 in
theorem gX2_hasBeast_X2_has : GoodIn wsX2_hasBeast (va_wsS RX2 54 yX2_has wsX2_has) := goodIn_app (goodIn_of _ (by decide +kernel)) ggX2_hasBeast_X2_has
theorem dX2_hasBeast_0 : decode cX2_hasBeast 0 = .ok (.aload_n 0, 1) := by decide +kernel
theorem dX2_hasBeast_1 : decode cX2_hasBeast 1 = .ok (.iload_n 1, 1) := by decide +kernel
theorem dX2_hasBeast_2 : decode cX2_hasBeast 2 = .ok (.invokevirtual 47, 3) := by decide +kernel
theorem dX2_hasBeast_5 : decode cX2_hasBeast 5 = .ok (.iload_n 2, 1) := by decide +kernel
theorem dX2_hasBeast_6 : decode cX2_hasBeast 6 = .ok (.invokestatic 34, 3) := by decide +kernel
theorem dX2_hasBeast_9 : decode cX2_hasBeast 9 = .ok (.aload_n 0, 1) := by decide +kernel
theorem dX2_hasBeast_10 : decode cX2_hasBeast 10 = .ok (.getfield 10, 3) := by decide +kernel
theorem dX2_hasBeast_13 : decode cX2_hasBeast 13 = .ok (.getfield 50, 3) := by decide +kernel
theorem dX2_hasBeast_16 : decode cX2_hasBeast 16 = .ok (.iload_n 1, 1) := by decide +kernel
theorem dX2_hasBeast_17 : decode cX2_hasBeast 17 = .ok (.iaload, 1) := by decide +kernel
theorem dX2_hasBeast_18 : decode cX2_hasBeast 18 = .ok (.iload_n 2, 1) := by decide +kernel
theorem dX2_hasBeast_19 : decode cX2_hasBeast 19 = .ok (.invokestatic 54, 3) := by decide +kernel
theorem dX2_hasBeast_22 : decode cX2_hasBeast 22 = .ok (.ireturn, 1) := by decide +kernel
set_option maxRecDepth 20000 in
theorem ggX2_homeOf_X2_needFable : GoodIn wsX2_homeOf wsX2_needFable := goodIn_ca (goodIn_r _ [7, 8, 9, 1, 10, 11, 12, 13, 14, 15, 16, 17, 18, 19, 20, 21] (by decide +kernel) (by decide +kernel)) (goodIn_sub (fun _ h => List.mem_cons_of_mem _ (List.mem_append_right _ h)) (by decide +kernel))
set_option maxRecDepth 20000 in
theorem gX2_homeOf_X2_needFable : GoodIn wsX2_homeOf (wsV RX2 47 RX2 yX2_needFable wsX2_needFable) := goodIn_app (goodIn_of _ (by decide +kernel)) ggX2_homeOf_X2_needFable
theorem dX2_homeOf_0 : decode cX2_homeOf 0 = .ok (.aload_n 0, 1) := by decide +kernel
theorem dX2_homeOf_1 : decode cX2_homeOf 1 = .ok (.iload_n 1, 1) := by decide +kernel
theorem dX2_homeOf_2 : decode cX2_homeOf 2 = .ok (.invokevirtual 47, 3) := by decide +kernel
theorem dX2_homeOf_5 : decode cX2_homeOf 5 = .ok (.aload_n 0, 1) := by decide +kernel
theorem dX2_homeOf_6 : decode cX2_homeOf 6 = .ok (.getfield 10, 3) := by decide +kernel
theorem dX2_homeOf_9 : decode cX2_homeOf 9 = .ok (.getfield 130, 3) := by decide +kernel
theorem dX2_homeOf_12 : decode cX2_homeOf 12 = .ok (.iload_n 1, 1) := by decide +kernel
theorem dX2_homeOf_13 : decode cX2_homeOf 13 = .ok (.iaload, 1) := by decide +kernel
theorem dX2_homeOf_14 : decode cX2_homeOf 14 = .ok (.ireturn, 1) := by decide +kernel
set_option maxRecDepth 20000 in
theorem ggX2_parentOf_X2_needFable : GoodIn wsX2_parentOf wsX2_needFable := goodIn_ca (goodIn_r _ [7, 8, 9, 1, 10, 11, 12, 13, 14, 15, 16, 17, 18, 19, 20, 21] (by decide +kernel) (by decide +kernel)) (goodIn_sub (fun _ h => List.mem_cons_of_mem _ (List.mem_append_right _ h)) (by decide +kernel))
set_option maxRecDepth 20000 in
theorem gX2_parentOf_X2_needFable : GoodIn wsX2_parentOf (wsV RX2 47 RX2 yX2_needFable wsX2_needFable) := goodIn_app (goodIn_of _ (by decide +kernel)) ggX2_parentOf_X2_needFable
theorem dX2_parentOf_0 : decode cX2_parentOf 0 = .ok (.aload_n 0, 1) := by decide +kernel
theorem dX2_parentOf_1 : decode cX2_parentOf 1 = .ok (.iload_n 1, 1) := by decide +kernel
theorem dX2_parentOf_2 : decode cX2_parentOf 2 = .ok (.invokevirtual 47, 3) := by decide +kernel
theorem dX2_parentOf_5 : decode cX2_parentOf 5 = .ok (.aload_n 0, 1) := by decide +kernel
theorem dX2_parentOf_6 : decode cX2_parentOf 6 = .ok (.getfield 10, 3) := by decide +kernel
theorem dX2_parentOf_9 : decode cX2_parentOf 9 = .ok (.getfield 133, 3) := by decide +kernel
theorem dX2_parentOf_12 : decode cX2_parentOf 12 = .ok (.iload_n 1, 1) := by decide +kernel
theorem dX2_parentOf_13 : decode cX2_parentOf 13 = .ok (.iaload, 1) := by decide +kernel
theorem dX2_parentOf_14 : decode cX2_parentOf 14 = .ok (.ireturn, 1) := by decide +kernel
set_option maxRecDepth 20000 in
theorem ggX2_variantsOf_X2_needFable : GoodIn wsX2_variantsOf wsX2_needFable := goodIn_ca (goodIn_r _ [7, 8, 9, 1, 10, 21, 22, 23, 24, 25, 26, 27, 28, 29, 30, 31] (by decide +kernel) (by decide +kernel)) (goodIn_sub (fun _ h => List.mem_cons_of_mem _ (List.mem_append_right _ h)) (by decide +kernel))
set_option maxRecDepth 20000 in
theorem gX2_variantsOf_X2_needFable : GoodIn wsX2_variantsOf (wsV RX2 47 RX2 yX2_needFable wsX2_needFable) := goodIn_app (goodIn_of _ (by decide +kernel)) ggX2_variantsOf_X2_needFable
set_option maxRecDepth 20000 in
theorem ggX2_variantsOf_X2_size : GoodIn wsX2_variantsOf wsX2_size := goodIn_r _ [13, 14, 15, 16, 17, 18, 19, 20] (by decide +kernel) (by decide +kernel)
set_option maxRecDepth 20000 in
theorem gX2_variantsOf_X2_size : GoodIn wsX2_variantsOf (va_wsS RX2 70 yX2_size wsX2_size) := goodIn_app (goodIn_of _ (by decide +kernel)) ggX2_variantsOf_X2_size
theorem dX2_variantsOf_0 : decode cX2_variantsOf 0 = .ok (.aload_n 0, 1) := by decide +kernel
theorem dX2_variantsOf_1 : decode cX2_variantsOf 1 = .ok (.iload_n 1, 1) := by decide +kernel
theorem dX2_variantsOf_2 : decode cX2_variantsOf 2 = .ok (.invokevirtual 47, 3) := by decide +kernel
theorem dX2_variantsOf_5 : decode cX2_variantsOf 5 = .ok (.aload_n 0, 1) := by decide +kernel
theorem dX2_variantsOf_6 : decode cX2_variantsOf 6 = .ok (.getfield 10, 3) := by decide +kernel
theorem dX2_variantsOf_9 : decode cX2_variantsOf 9 = .ok (.getfield 65, 3) := by decide +kernel
theorem dX2_variantsOf_12 : decode cX2_variantsOf 12 = .ok (.iload_n 1, 1) := by decide +kernel
theorem dX2_variantsOf_13 : decode cX2_variantsOf 13 = .ok (.iaload, 1) := by decide +kernel
theorem dX2_variantsOf_14 : decode cX2_variantsOf 14 = .ok (.invokestatic 70, 3) := by decide +kernel
theorem dX2_variantsOf_17 : decode cX2_variantsOf 17 = .ok (.ireturn, 1) := by decide +kernel
set_option maxRecDepth 20000 in
theorem ggX2_valleysOf_X2_needFable : GoodIn wsX2_valleysOf wsX2_needFable := goodIn_ca (goodIn_r _ [6, 7, 8, 9, 10, 26, 27, 28, 29, 30, 31, 32, 33, 34, 35, 36] (by decide +kernel) (by decide +kernel)) (goodIn_sub (fun _ h => List.mem_cons_of_mem _ (List.mem_append_right _ h)) (by decide +kernel))
set_option maxRecDepth 20000 in
theorem gX2_valleysOf_X2_needFable : GoodIn wsX2_valleysOf (wsV RX2 47 RX2 yX2_needFable wsX2_needFable) := goodIn_app (goodIn_of _ (by decide +kernel)) ggX2_valleysOf_X2_needFable
set_option maxRecDepth 20000 in
theorem ggX2_valleysOf_X1_count : GoodIn wsX2_valleysOf wsX1_count := goodIn_r _ [15, 16, 17, 5, 18, 19, 20, 21, 22, 23, 24, 25, 37, 38, 39, 40, 41, 42, 43] (by decide +kernel) (by decide +kernel)
set_option maxRecDepth 20000 in
theorem gX2_valleysOf_X1_count : GoodIn wsX2_valleysOf (wsV RX2 114 RX1 yX1_count wsX1_count) := goodIn_app (goodIn_of _ (by decide +kernel)) ggX2_valleysOf_X1_count
theorem dX2_valleysOf_0 : decode cX2_valleysOf 0 = .ok (.aload_n 0, 1) := by decide +kernel
theorem dX2_valleysOf_1 : decode cX2_valleysOf 1 = .ok (.iload_n 1, 1) := by decide +kernel
theorem dX2_valleysOf_2 : decode cX2_valleysOf 2 = .ok (.invokevirtual 47, 3) := by decide +kernel
theorem dX2_valleysOf_5 : decode cX2_valleysOf 5 = .ok (.aload_n 0, 1) := by decide +kernel
theorem dX2_valleysOf_6 : decode cX2_valleysOf 6 = .ok (.getfield 19, 3) := by decide +kernel
theorem dX2_valleysOf_9 : decode cX2_valleysOf 9 = .ok (.iconst 1, 1) := by decide +kernel
theorem dX2_valleysOf_10 : decode cX2_valleysOf 10 = .ok (.iload_n 1, 1) := by decide +kernel
theorem dX2_valleysOf_11 : decode cX2_valleysOf 11 = .ok (.ishl, 1) := by decide +kernel
theorem dX2_valleysOf_12 : decode cX2_valleysOf 12 = .ok (.invokevirtual 114, 3) := by decide +kernel
theorem dX2_valleysOf_15 : decode cX2_valleysOf 15 = .ok (.ireturn, 1) := by decide +kernel
set_option maxRecDepth 20000 in
theorem ggX2_kinship_X2_needFable : GoodIn wsX2_kinship wsX2_needFable := goodIn_ca (goodIn_r _ [7, 8, 9, 1, 10, 21, 22, 23, 24, 25, 26, 27, 28, 29, 30, 31] (by decide +kernel) (by decide +kernel)) (goodIn_sub (fun _ h => List.mem_cons_of_mem _ (List.mem_append_right _ h)) (by decide +kernel))
set_option maxRecDepth 20000 in
theorem gX2_kinship_X2_needFable : GoodIn wsX2_kinship (wsV RX2 47 RX2 yX2_needFable wsX2_needFable) := goodIn_app (goodIn_of _ (by decide +kernel)) ggX2_kinship_X2_needFable
set_option maxRecDepth 20000 in
theorem ggX2_kinship_X2_size : GoodIn wsX2_kinship wsX2_size := goodIn_r _ [13, 14, 15, 16, 17, 18, 19, 20] (by decide +kernel) (by decide +kernel)
set_option maxRecDepth 20000 in
theorem gX2_kinship_X2_size : GoodIn wsX2_kinship (va_wsS RX2 70 yX2_size wsX2_size) := goodIn_app (goodIn_of _ (by decide +kernel)) ggX2_kinship_X2_size
theorem dX2_kinship_0 : decode cX2_kinship 0 = .ok (.aload_n 0, 1) := by decide +kernel
theorem dX2_kinship_1 : decode cX2_kinship 1 = .ok (.iload_n 1, 1) := by decide +kernel
theorem dX2_kinship_2 : decode cX2_kinship 2 = .ok (.invokevirtual 47, 3) := by decide +kernel
theorem dX2_kinship_5 : decode cX2_kinship 5 = .ok (.aload_n 0, 1) := by decide +kernel
theorem dX2_kinship_6 : decode cX2_kinship 6 = .ok (.iload_n 2, 1) := by decide +kernel
theorem dX2_kinship_7 : decode cX2_kinship 7 = .ok (.invokevirtual 47, 3) := by decide +kernel
theorem dX2_kinship_10 : decode cX2_kinship 10 = .ok (.aload_n 0, 1) := by decide +kernel
theorem dX2_kinship_11 : decode cX2_kinship 11 = .ok (.getfield 10, 3) := by decide +kernel
theorem dX2_kinship_14 : decode cX2_kinship 14 = .ok (.getfield 136, 3) := by decide +kernel
theorem dX2_kinship_17 : decode cX2_kinship 17 = .ok (.iload_n 1, 1) := by decide +kernel
theorem dX2_kinship_18 : decode cX2_kinship 18 = .ok (.iaload, 1) := by decide +kernel
theorem dX2_kinship_19 : decode cX2_kinship 19 = .ok (.aload_n 0, 1) := by decide +kernel
theorem dX2_kinship_20 : decode cX2_kinship 20 = .ok (.getfield 10, 3) := by decide +kernel
theorem dX2_kinship_23 : decode cX2_kinship 23 = .ok (.getfield 136, 3) := by decide +kernel
theorem dX2_kinship_26 : decode cX2_kinship 26 = .ok (.iload_n 2, 1) := by decide +kernel
theorem dX2_kinship_27 : decode cX2_kinship 27 = .ok (.iaload, 1) := by decide +kernel
theorem dX2_kinship_28 : decode cX2_kinship 28 = .ok (.iand, 1) := by decide +kernel
theorem dX2_kinship_29 : decode cX2_kinship 29 = .ok (.ifCond .ne 5, 3) := by decide +kernel
theorem dX2_kinship_32 : decode cX2_kinship 32 = .ok (.iconst (-1), 1) := by decide +kernel
theorem dX2_kinship_33 : decode cX2_kinship 33 = .ok (.ireturn, 1) := by decide +kernel
theorem dX2_kinship_34 : decode cX2_kinship 34 = .ok (.aload_n 0, 1) := by decide +kernel
theorem dX2_kinship_35 : decode cX2_kinship 35 = .ok (.getfield 10, 3) := by decide +kernel
theorem dX2_kinship_38 : decode cX2_kinship 38 = .ok (.getfield 136, 3) := by decide +kernel
theorem dX2_kinship_41 : decode cX2_kinship 41 = .ok (.iload_n 1, 1) := by decide +kernel
theorem dX2_kinship_42 : decode cX2_kinship 42 = .ok (.iaload, 1) := by decide +kernel
theorem dX2_kinship_43 : decode cX2_kinship 43 = .ok (.aload_n 0, 1) := by decide +kernel
theorem dX2_kinship_44 : decode cX2_kinship 44 = .ok (.getfield 10, 3) := by decide +kernel
theorem dX2_kinship_47 : decode cX2_kinship 47 = .ok (.getfield 136, 3) := by decide +kernel
theorem dX2_kinship_50 : decode cX2_kinship 50 = .ok (.iload_n 2, 1) := by decide +kernel
theorem dX2_kinship_51 : decode cX2_kinship 51 = .ok (.iaload, 1) := by decide +kernel
theorem dX2_kinship_52 : decode cX2_kinship 52 = .ok (.ixor, 1) := by decide +kernel
theorem dX2_kinship_53 : decode cX2_kinship 53 = .ok (.invokestatic 70, 3) := by decide +kernel
theorem dX2_kinship_56 : decode cX2_kinship 56 = .ok (.ireturn, 1) := by decide +kernel
set_option maxRecDepth 20000 in
theorem ggX2_sharedBeasts_X2_needFable : GoodIn wsX2_sharedBeasts wsX2_needFable := goodIn_ca (goodIn_r _ [7, 8, 9, 1, 10, 21, 22, 23, 24, 25, 26, 27, 28, 29, 30, 31] (by decide +kernel) (by decide +kernel)) (goodIn_sub (fun _ h => List.mem_cons_of_mem _ (List.mem_append_right _ h)) (by decide +kernel))
set_option maxRecDepth 20000 in
theorem gX2_sharedBeasts_X2_needFable : GoodIn wsX2_sharedBeasts (wsV RX2 47 RX2 yX2_needFable wsX2_needFable) := goodIn_app (goodIn_of _ (by decide +kernel)) ggX2_sharedBeasts_X2_needFable
set_option maxRecDepth 20000 in
theorem ggX2_sharedBeasts_X2_size : GoodIn wsX2_sharedBeasts wsX2_size := goodIn_r _ [13, 14, 15, 16, 17, 18, 19, 20] (by decide +kernel) (by decide +kernel)
set_option maxRecDepth 20000 in
theorem gX2_sharedBeasts_X2_size : GoodIn wsX2_sharedBeasts (va_wsS RX2 70 yX2_size wsX2_size) := goodIn_app (goodIn_of _ (by decide +kernel)) ggX2_sharedBeasts_X2_size
theorem dX2_sharedBeasts_0 : decode cX2_sharedBeasts 0 = .ok (.aload_n 0, 1) := by decide +kernel
theorem dX2_sharedBeasts_1 : decode cX2_sharedBeasts 1 = .ok (.iload_n 1, 1) := by decide +kernel
theorem dX2_sharedBeasts_2 : decode cX2_sharedBeasts 2 = .ok (.invokevirtual 47, 3) := by decide +kernel
theorem dX2_sharedBeasts_5 : decode cX2_sharedBeasts 5 = .ok (.aload_n 0, 1) := by decide +kernel
theorem dX2_sharedBeasts_6 : decode cX2_sharedBeasts 6 = .ok (.iload_n 2, 1) := by decide +kernel
theorem dX2_sharedBeasts_7 : decode cX2_sharedBeasts 7 = .ok (.invokevirtual 47, 3) := by decide +kernel
theorem dX2_sharedBeasts_10 : decode cX2_sharedBeasts 10 = .ok (.aload_n 0, 1) := by decide +kernel
theorem dX2_sharedBeasts_11 : decode cX2_sharedBeasts 11 = .ok (.getfield 10, 3) := by decide +kernel
theorem dX2_sharedBeasts_14 : decode cX2_sharedBeasts 14 = .ok (.getfield 50, 3) := by decide +kernel
theorem dX2_sharedBeasts_17 : decode cX2_sharedBeasts 17 = .ok (.iload_n 1, 1) := by decide +kernel
theorem dX2_sharedBeasts_18 : decode cX2_sharedBeasts 18 = .ok (.iaload, 1) := by decide +kernel
theorem dX2_sharedBeasts_19 : decode cX2_sharedBeasts 19 = .ok (.aload_n 0, 1) := by decide +kernel
theorem dX2_sharedBeasts_20 : decode cX2_sharedBeasts 20 = .ok (.getfield 10, 3) := by decide +kernel
theorem dX2_sharedBeasts_23 : decode cX2_sharedBeasts 23 = .ok (.getfield 50, 3) := by decide +kernel
theorem dX2_sharedBeasts_26 : decode cX2_sharedBeasts 26 = .ok (.iload_n 2, 1) := by decide +kernel
theorem dX2_sharedBeasts_27 : decode cX2_sharedBeasts 27 = .ok (.iaload, 1) := by decide +kernel
theorem dX2_sharedBeasts_28 : decode cX2_sharedBeasts 28 = .ok (.iand, 1) := by decide +kernel
theorem dX2_sharedBeasts_29 : decode cX2_sharedBeasts 29 = .ok (.invokestatic 70, 3) := by decide +kernel
theorem dX2_sharedBeasts_32 : decode cX2_sharedBeasts 32 = .ok (.ireturn, 1) := by decide +kernel
set_option maxRecDepth 20000 in
theorem ggX2_isOpen_X2_needValley : GoodIn wsX2_isOpen wsX2_needValley := goodIn_ca (goodIn_r _ [6, 7, 8] (by decide +kernel) (by decide +kernel)) (goodIn_sub (fun _ h => List.mem_cons_of_mem _ (List.mem_append_right _ h)) (by decide +kernel))
set_option maxRecDepth 20000 in
theorem gX2_isOpen_X2_needValley : GoodIn wsX2_isOpen (va_wsS RX2 37 yX2_needValley wsX2_needValley) := goodIn_app (goodIn_of _ (by decide +kernel)) ggX2_isOpen_X2_needValley
set_option maxRecDepth 20000 in
theorem ggX2_isOpen_X2_has : GoodIn wsX2_isOpen wsX2_has := goodIn_r _ [11] (by decide +kernel) (by decide +kernel)
set_option maxRecDepth 20000 in
theorem gX2_isOpen_X2_has : GoodIn wsX2_isOpen (va_wsS RX2 54 yX2_has wsX2_has) := goodIn_app (goodIn_of _ (by decide +kernel)) ggX2_isOpen_X2_has
theorem dX2_isOpen_0 : decode cX2_isOpen 0 = .ok (.iload_n 1, 1) := by decide +kernel
theorem dX2_isOpen_1 : decode cX2_isOpen 1 = .ok (.invokestatic 37, 3) := by decide +kernel
theorem dX2_isOpen_4 : decode cX2_isOpen 4 = .ok (.iload_n 2, 1) := by decide +kernel
theorem dX2_isOpen_5 : decode cX2_isOpen 5 = .ok (.invokestatic 37, 3) := by decide +kernel
theorem dX2_isOpen_8 : decode cX2_isOpen 8 = .ok (.aload_n 0, 1) := by decide +kernel
theorem dX2_isOpen_9 : decode cX2_isOpen 9 = .ok (.getfield 19, 3) := by decide +kernel
theorem dX2_isOpen_12 : decode cX2_isOpen 12 = .ok (.getfield 94, 3) := by decide +kernel
theorem dX2_isOpen_15 : decode cX2_isOpen 15 = .ok (.iload_n 1, 1) := by decide +kernel
theorem dX2_isOpen_16 : decode cX2_isOpen 16 = .ok (.iaload, 1) := by decide +kernel
theorem dX2_isOpen_17 : decode cX2_isOpen 17 = .ok (.iload_n 2, 1) := by decide +kernel
theorem dX2_isOpen_18 : decode cX2_isOpen 18 = .ok (.invokestatic 54, 3) := by decide +kernel
theorem dX2_isOpen_21 : decode cX2_isOpen 21 = .ok (.ireturn, 1) := by decide +kernel
set_option maxRecDepth 20000 in
theorem ggX2_isBanned_X2_needFable : GoodIn wsX2_isBanned wsX2_needFable := goodIn_ca (goodIn_r _ [7, 8, 9, 2, 10, 25, 26, 27, 28, 29, 30, 31, 32, 33, 34, 35] (by decide +kernel) (by decide +kernel)) (goodIn_sub (fun _ h => List.mem_cons_of_mem _ (List.mem_append_right _ h)) (by decide +kernel))
set_option maxRecDepth 20000 in
theorem gX2_isBanned_X2_needFable : GoodIn wsX2_isBanned (wsV RX2 47 RX2 yX2_needFable wsX2_needFable) := goodIn_app (goodIn_of _ (by decide +kernel)) ggX2_isBanned_X2_needFable
set_option maxRecDepth 20000 in
theorem ggX2_isBanned_X2_needValley : GoodIn wsX2_isBanned wsX2_needValley := goodIn_ca (goodIn_r _ [13, 8, 9] (by decide +kernel) (by decide +kernel)) (goodIn_sub (fun _ h => List.mem_cons_of_mem _ (List.mem_append_right _ h)) (by decide +kernel))
set_option maxRecDepth 20000 in
theorem gX2_isBanned_X2_needValley : GoodIn wsX2_isBanned (va_wsS RX2 37 yX2_needValley wsX2_needValley) := goodIn_app (goodIn_of _ (by decide +kernel)) ggX2_isBanned_X2_needValley
set_option maxRecDepth 20000 in
theorem ggX2_isBanned_X1_bans : GoodIn wsX2_isBanned wsX1_bans := goodIn_r _ [18, 19, 20, 21, 22, 23, 6, 24, 36, 37, 38, 39, 40, 41, 42, 29, 30, 31, 32, 33, 34, 35] (by decide +kernel) (by decide +kernel)
set_option maxRecDepth 20000 in
theorem gX2_isBanned_X1_bans : GoodIn wsX2_isBanned (wsV RX2 108 RX1 yX1_bans wsX1_bans) := goodIn_app (goodIn_of _ (by decide +kernel)) ggX2_isBanned_X1_bans
theorem dX2_isBanned_0 : decode cX2_isBanned 0 = .ok (.aload_n 0, 1) := by decide +kernel
theorem dX2_isBanned_1 : decode cX2_isBanned 1 = .ok (.iload_n 1, 1) := by decide +kernel
theorem dX2_isBanned_2 : decode cX2_isBanned 2 = .ok (.invokevirtual 47, 3) := by decide +kernel
theorem dX2_isBanned_5 : decode cX2_isBanned 5 = .ok (.iload_n 2, 1) := by decide +kernel
theorem dX2_isBanned_6 : decode cX2_isBanned 6 = .ok (.invokestatic 37, 3) := by decide +kernel
theorem dX2_isBanned_9 : decode cX2_isBanned 9 = .ok (.aload_n 0, 1) := by decide +kernel
theorem dX2_isBanned_10 : decode cX2_isBanned 10 = .ok (.getfield 19, 3) := by decide +kernel
theorem dX2_isBanned_13 : decode cX2_isBanned 13 = .ok (.aload_n 0, 1) := by decide +kernel
theorem dX2_isBanned_14 : decode cX2_isBanned 14 = .ok (.getfield 10, 3) := by decide +kernel
theorem dX2_isBanned_17 : decode cX2_isBanned 17 = .ok (.iload_n 1, 1) := by decide +kernel
theorem dX2_isBanned_18 : decode cX2_isBanned 18 = .ok (.iload_n 2, 1) := by decide +kernel
theorem dX2_isBanned_19 : decode cX2_isBanned 19 = .ok (.invokevirtual 108, 3) := by decide +kernel
theorem dX2_isBanned_22 : decode cX2_isBanned 22 = .ok (.ireturn, 1) := by decide +kernel
set_option maxRecDepth 20000 in
theorem ggX2_isTold_X2_needFable : GoodIn wsX2_isTold wsX2_needFable := goodIn_ca (goodIn_r _ [7, 8, 9, 10, 11, 18, 19, 20, 21, 29, 30, 31, 32, 33, 34, 35] (by decide +kernel) (by decide +kernel)) (goodIn_sub (fun _ h => List.mem_cons_of_mem _ (List.mem_append_right _ h)) (by decide +kernel))
set_option maxRecDepth 20000 in
theorem gX2_isTold_X2_needFable : GoodIn wsX2_isTold (wsV RX2 47 RX2 yX2_needFable wsX2_needFable) := goodIn_app (goodIn_of _ (by decide +kernel)) ggX2_isTold_X2_needFable
set_option maxRecDepth 20000 in
theorem ggX2_isTold_X2_needValley : GoodIn wsX2_isTold wsX2_needValley := goodIn_ca (goodIn_r _ [14, 8, 9] (by decide +kernel) (by decide +kernel)) (goodIn_sub (fun _ h => List.mem_cons_of_mem _ (List.mem_append_right _ h)) (by decide +kernel))
set_option maxRecDepth 20000 in
theorem gX2_isTold_X2_needValley : GoodIn wsX2_isTold (va_wsS RX2 37 yX2_needValley wsX2_needValley) := goodIn_app (goodIn_of _ (by decide +kernel)) ggX2_isTold_X2_needValley
set_option maxRecDepth 20000 in
theorem ggX2_isTold_X2_has : GoodIn wsX2_isTold wsX2_has := goodIn_r _ [17] (by decide +kernel) (by decide +kernel)
set_option maxRecDepth 20000 in
theorem gX2_isTold_X2_has : GoodIn wsX2_isTold (va_wsS RX2 54 yX2_has wsX2_has) := goodIn_app (goodIn_of _ (by decide +kernel)) ggX2_isTold_X2_has
theorem dX2_isTold_0 : decode cX2_isTold 0 = .ok (.aload_n 0, 1) := by decide +kernel
theorem dX2_isTold_1 : decode cX2_isTold 1 = .ok (.iload_n 1, 1) := by decide +kernel
theorem dX2_isTold_2 : decode cX2_isTold 2 = .ok (.invokevirtual 47, 3) := by decide +kernel
theorem dX2_isTold_5 : decode cX2_isTold 5 = .ok (.iload_n 2, 1) := by decide +kernel
theorem dX2_isTold_6 : decode cX2_isTold 6 = .ok (.invokestatic 37, 3) := by decide +kernel
theorem dX2_isTold_9 : decode cX2_isTold 9 = .ok (.aload_n 0, 1) := by decide +kernel
theorem dX2_isTold_10 : decode cX2_isTold 10 = .ok (.getfield 19, 3) := by decide +kernel
theorem dX2_isTold_13 : decode cX2_isTold 13 = .ok (.getfield 103, 3) := by decide +kernel
theorem dX2_isTold_16 : decode cX2_isTold 16 = .ok (.iload_n 2, 1) := by decide +kernel
theorem dX2_isTold_17 : decode cX2_isTold 17 = .ok (.iaload, 1) := by decide +kernel
theorem dX2_isTold_18 : decode cX2_isTold 18 = .ok (.iload_n 1, 1) := by decide +kernel
theorem dX2_isTold_19 : decode cX2_isTold 19 = .ok (.invokestatic 54, 3) := by decide +kernel
theorem dX2_isTold_22 : decode cX2_isTold 22 = .ok (.ireturn, 1) := by decide +kernel
set_option maxRecDepth 20000 in
theorem ggX2_toldIn_X2_needValley : GoodIn wsX2_toldIn wsX2_needValley := goodIn_ca (goodIn_r _ [6, 7, 8] (by decide +kernel) (by decide +kernel)) (goodIn_sub (fun _ h => List.mem_cons_of_mem _ (List.mem_append_right _ h)) (by decide +kernel))
set_option maxRecDepth 20000 in
theorem gX2_toldIn_X2_needValley : GoodIn wsX2_toldIn (va_wsS RX2 37 yX2_needValley wsX2_needValley) := goodIn_app (goodIn_of _ (by decide +kernel)) ggX2_toldIn_X2_needValley
set_option maxRecDepth 20000 in
theorem ggX2_toldIn_X2_size : GoodIn wsX2_toldIn wsX2_size := goodIn_r _ [11, 12, 13, 14, 15, 16, 17, 18] (by decide +kernel) (by decide +kernel)
set_option maxRecDepth 20000 in
theorem gX2_toldIn_X2_size : GoodIn wsX2_toldIn (va_wsS RX2 70 yX2_size wsX2_size) := goodIn_app (goodIn_of _ (by decide +kernel)) ggX2_toldIn_X2_size
theorem dX2_toldIn_0 : decode cX2_toldIn 0 = .ok (.iload_n 1, 1) := by decide +kernel
theorem dX2_toldIn_1 : decode cX2_toldIn 1 = .ok (.invokestatic 37, 3) := by decide +kernel
theorem dX2_toldIn_4 : decode cX2_toldIn 4 = .ok (.aload_n 0, 1) := by decide +kernel
theorem dX2_toldIn_5 : decode cX2_toldIn 5 = .ok (.getfield 19, 3) := by decide +kernel
theorem dX2_toldIn_8 : decode cX2_toldIn 8 = .ok (.getfield 103, 3) := by decide +kernel
theorem dX2_toldIn_11 : decode cX2_toldIn 11 = .ok (.iload_n 1, 1) := by decide +kernel
theorem dX2_toldIn_12 : decode cX2_toldIn 12 = .ok (.iaload, 1) := by decide +kernel
theorem dX2_toldIn_13 : decode cX2_toldIn 13 = .ok (.invokestatic 70, 3) := by decide +kernel
theorem dX2_toldIn_16 : decode cX2_toldIn 16 = .ok (.ireturn, 1) := by decide +kernel
set_option maxRecDepth 20000 in
theorem ggX2_allowedIn_X2_needValley : GoodIn wsX2_allowedIn wsX2_needValley := goodIn_ca (goodIn_r _ [6, 7, 8] (by decide +kernel) (by decide +kernel)) (goodIn_sub (fun _ h => List.mem_cons_of_mem _ (List.mem_append_right _ h)) (by decide +kernel))
set_option maxRecDepth 20000 in
theorem gX2_allowedIn_X2_needValley : GoodIn wsX2_allowedIn (va_wsS RX2 37 yX2_needValley wsX2_needValley) := goodIn_app (goodIn_of _ (by decide +kernel)) ggX2_allowedIn_X2_needValley
set_option maxRecDepth 20000 in
theorem ggX2_allowedIn_X1_welcome : GoodIn wsX2_allowedIn wsX1_welcome := goodIn_r _ [13, 14, 15, 16, 17, 12, 18, 19, 20, 21, 22, 23, 5, 24, 39, 40, 41, 42, 43, 44, 45, 46, 47, 48, 49, 50, 51, 52] (by decide +kernel) (by decide +kernel)
set_option maxRecDepth 20000 in
theorem gX2_allowedIn_X1_welcome : GoodIn wsX2_allowedIn (wsV RX2 142 RX1 yX1_welcome wsX1_welcome) := goodIn_app (goodIn_of _ (by decide +kernel)) ggX2_allowedIn_X1_welcome
set_option maxRecDepth 20000 in
theorem ggX2_allowedIn_X2_size : GoodIn wsX2_allowedIn wsX2_size := goodIn_r _ [27, 28, 29, 30, 31, 32, 33, 34] (by decide +kernel) (by decide +kernel)
set_option maxRecDepth 20000 in
theorem gX2_allowedIn_X2_size : GoodIn wsX2_allowedIn (va_wsS RX2 70 yX2_size wsX2_size) := goodIn_app (goodIn_of _ (by decide +kernel)) ggX2_allowedIn_X2_size
theorem dX2_allowedIn_0 : decode cX2_allowedIn 0 = .ok (.iload_n 1, 1) := by decide +kernel
theorem dX2_allowedIn_1 : decode cX2_allowedIn 1 = .ok (.invokestatic 37, 3) := by decide +kernel
theorem dX2_allowedIn_4 : decode cX2_allowedIn 4 = .ok (.aload_n 0, 1) := by decide +kernel
theorem dX2_allowedIn_5 : decode cX2_allowedIn 5 = .ok (.getfield 19, 3) := by decide +kernel
theorem dX2_allowedIn_8 : decode cX2_allowedIn 8 = .ok (.aload_n 0, 1) := by decide +kernel
theorem dX2_allowedIn_9 : decode cX2_allowedIn 9 = .ok (.getfield 10, 3) := by decide +kernel
theorem dX2_allowedIn_12 : decode cX2_allowedIn 12 = .ok (.iload_n 1, 1) := by decide +kernel
theorem dX2_allowedIn_13 : decode cX2_allowedIn 13 = .ok (.invokevirtual 142, 3) := by decide +kernel
theorem dX2_allowedIn_16 : decode cX2_allowedIn 16 = .ok (.invokestatic 70, 3) := by decide +kernel
theorem dX2_allowedIn_19 : decode cX2_allowedIn 19 = .ok (.ireturn, 1) := by decide +kernel
set_option maxRecDepth 20000 in
theorem ggX2_bansOf_X2_needValley : GoodIn wsX2_bansOf wsX2_needValley := goodIn_ca (goodIn_r _ [7, 8, 9] (by decide +kernel) (by decide +kernel)) (goodIn_sub (fun _ h => List.mem_cons_of_mem _ (List.mem_append_right _ h)) (by decide +kernel))
set_option maxRecDepth 20000 in
theorem gX2_bansOf_X2_needValley : GoodIn wsX2_bansOf (va_wsS RX2 37 yX2_needValley wsX2_needValley) := goodIn_app (goodIn_of _ (by decide +kernel)) ggX2_bansOf_X2_needValley
set_option maxRecDepth 20000 in
theorem ggX2_bansOf_X2_size : GoodIn wsX2_bansOf wsX2_size := goodIn_r _ [12, 13, 14, 15, 16, 17, 18, 19] (by decide +kernel) (by decide +kernel)
set_option maxRecDepth 20000 in
theorem gX2_bansOf_X2_size : GoodIn wsX2_bansOf (va_wsS RX2 70 yX2_size wsX2_size) := goodIn_app (goodIn_of _ (by decide +kernel)) ggX2_bansOf_X2_size
theorem dX2_bansOf_0 : decode cX2_bansOf 0 = .ok (.iload_n 1, 1) := by decide +kernel
theorem dX2_bansOf_1 : decode cX2_bansOf 1 = .ok (.invokestatic 37, 3) := by decide +kernel
theorem dX2_bansOf_4 : decode cX2_bansOf 4 = .ok (.aload_n 0, 1) := by decide +kernel
theorem dX2_bansOf_5 : decode cX2_bansOf 5 = .ok (.getfield 19, 3) := by decide +kernel
theorem dX2_bansOf_8 : decode cX2_bansOf 8 = .ok (.getfield 97, 3) := by decide +kernel
theorem dX2_bansOf_11 : decode cX2_bansOf 11 = .ok (.iload_n 1, 1) := by decide +kernel
theorem dX2_bansOf_12 : decode cX2_bansOf 12 = .ok (.iaload, 1) := by decide +kernel
theorem dX2_bansOf_13 : decode cX2_bansOf 13 = .ok (.invokestatic 70, 3) := by decide +kernel
theorem dX2_bansOf_16 : decode cX2_bansOf 16 = .ok (.aload_n 0, 1) := by decide +kernel
theorem dX2_bansOf_17 : decode cX2_bansOf 17 = .ok (.getfield 19, 3) := by decide +kernel
theorem dX2_bansOf_20 : decode cX2_bansOf 20 = .ok (.getfield 100, 3) := by decide +kernel
theorem dX2_bansOf_23 : decode cX2_bansOf 23 = .ok (.iload_n 1, 1) := by decide +kernel
theorem dX2_bansOf_24 : decode cX2_bansOf 24 = .ok (.iaload, 1) := by decide +kernel
theorem dX2_bansOf_25 : decode cX2_bansOf 25 = .ok (.invokestatic 70, 3) := by decide +kernel
theorem dX2_bansOf_28 : decode cX2_bansOf 28 = .ok (.iadd, 1) := by decide +kernel
theorem dX2_bansOf_29 : decode cX2_bansOf 29 = .ok (.ireturn, 1) := by decide +kernel
theorem dX2_fables_0 : decode cX2_fables 0 = .ok (.aload_n 0, 1) := by decide +kernel
theorem dX2_fables_1 : decode cX2_fables 1 = .ok (.getfield 10, 3) := by decide +kernel
theorem dX2_fables_4 : decode cX2_fables 4 = .ok (.getfield 146, 3) := by decide +kernel
theorem dX2_fables_7 : decode cX2_fables 7 = .ok (.ireturn, 1) := by decide +kernel
theorem dX2_season_0 : decode cX2_season 0 = .ok (.aload_n 0, 1) := by decide +kernel
theorem dX2_season_1 : decode cX2_season 1 = .ok (.getfield 26, 3) := by decide +kernel
theorem dX2_season_4 : decode cX2_season 4 = .ok (.ireturn, 1) := by decide +kernel
set_option maxRecDepth 20000 in
theorem ggX2_tellings_X0_all : GoodIn wsX2_tellings wsX0_all := goodIn_r _ [7, 8, 29, 30, 31, 32, 33, 34, 35] (by decide +kernel) (by decide +kernel)
set_option maxRecDepth 20000 in
theorem gX2_tellings_X0_all : GoodIn wsX2_tellings (wsV RX2 126 RX0 yX0_all wsX0_all) := goodIn_app (goodIn_of _ (by decide +kernel)) ggX2_tellings_X0_all
set_option maxRecDepth 20000 in
theorem ggX2_tellings_X1_count : GoodIn wsX2_tellings wsX1_count := goodIn_r _ [13, 14, 15, 16, 17, 18, 19, 20, 21, 22, 23, 24, 36, 37, 38, 39, 40, 41, 42] (by decide +kernel) (by decide +kernel)
set_option maxRecDepth 20000 in
theorem gX2_tellings_X1_count : GoodIn wsX2_tellings (wsV RX2 114 RX1 yX1_count wsX1_count) := goodIn_app (goodIn_of _ (by decide +kernel)) ggX2_tellings_X1_count
theorem dX2_tellings_0 : decode cX2_tellings 0 = .ok (.aload_n 0, 1) := by decide +kernel
theorem dX2_tellings_1 : decode cX2_tellings 1 = .ok (.getfield 19, 3) := by decide +kernel
theorem dX2_tellings_4 : decode cX2_tellings 4 = .ok (.aload_n 0, 1) := by decide +kernel
theorem dX2_tellings_5 : decode cX2_tellings 5 = .ok (.getfield 10, 3) := by decide +kernel
theorem dX2_tellings_8 : decode cX2_tellings 8 = .ok (.invokevirtual 126, 3) := by decide +kernel
theorem dX2_tellings_11 : decode cX2_tellings 11 = .ok (.invokevirtual 114, 3) := by decide +kernel
theorem dX2_tellings_14 : decode cX2_tellings 14 = .ok (.ireturn, 1) := by decide +kernel
theorem dX2_silenced_0 : decode cX2_silenced 0 = .ok (.aload_n 0, 1) := by decide +kernel
theorem dX2_silenced_1 : decode cX2_silenced 1 = .ok (.getfield 19, 3) := by decide +kernel
theorem dX2_silenced_4 : decode cX2_silenced 4 = .ok (.getfield 148, 3) := by decide +kernel
theorem dX2_silenced_7 : decode cX2_silenced 7 = .ok (.ireturn, 1) := by decide +kernel
set_option maxRecDepth 20000 in
theorem ggX2_fablesWithMoral_X2_needMoral : GoodIn wsX2_fablesWithMoral wsX2_needMoral := goodIn_ca (goodIn_r _ [5, 6, 7] (by decide +kernel) (by decide +kernel)) (goodIn_sub (fun _ h => List.mem_cons_of_mem _ (List.mem_append_right _ h)) (by decide +kernel))
set_option maxRecDepth 20000 in
theorem gX2_fablesWithMoral_X2_needMoral : GoodIn wsX2_fablesWithMoral (va_wsS RX2 30 yX2_needMoral wsX2_needMoral) := goodIn_app (goodIn_of _ (by decide +kernel)) ggX2_fablesWithMoral_X2_needMoral
set_option maxRecDepth 20000 in
theorem ggX2_fablesWithMoral_X0_withMoral : GoodIn wsX2_fablesWithMoral wsX0_withMoral := goodIn_r _ [12, 13, 14, 29, 30, 31, 32, 33, 34, 35] (by decide +kernel) (by decide +kernel)
set_option maxRecDepth 20000 in
theorem gX2_fablesWithMoral_X0_withMoral : GoodIn wsX2_fablesWithMoral (wsV RX2 151 RX0 yX0_withMoral wsX0_withMoral) := goodIn_app (goodIn_of _ (by decide +kernel)) ggX2_fablesWithMoral_X0_withMoral
set_option maxRecDepth 20000 in
theorem ggX2_fablesWithMoral_X2_size : GoodIn wsX2_fablesWithMoral wsX2_size := goodIn_r _ [17, 18, 19, 20, 21, 22, 23, 24] (by decide +kernel) (by decide +kernel)
set_option maxRecDepth 20000 in
theorem gX2_fablesWithMoral_X2_size : GoodIn wsX2_fablesWithMoral (va_wsS RX2 70 yX2_size wsX2_size) := goodIn_app (goodIn_of _ (by decide +kernel)) ggX2_fablesWithMoral_X2_size
theorem dX2_fablesWithMoral_0 : decode cX2_fablesWithMoral 0 = .ok (.iload_n 1, 1) := by decide +kernel
theorem dX2_fablesWithMoral_1 : decode cX2_fablesWithMoral 1 = .ok (.invokestatic 30, 3) := by decide +kernel
theorem dX2_fablesWithMoral_4 : decode cX2_fablesWithMoral 4 = .ok (.aload_n 0, 1) := by decide +kernel
theorem dX2_fablesWithMoral_5 : decode cX2_fablesWithMoral 5 = .ok (.getfield 10, 3) := by decide +kernel
theorem dX2_fablesWithMoral_8 : decode cX2_fablesWithMoral 8 = .ok (.iload_n 1, 1) := by decide +kernel
theorem dX2_fablesWithMoral_9 : decode cX2_fablesWithMoral 9 = .ok (.invokevirtual 151, 3) := by decide +kernel
theorem dX2_fablesWithMoral_12 : decode cX2_fablesWithMoral 12 = .ok (.invokestatic 70, 3) := by decide +kernel
theorem dX2_fablesWithMoral_15 : decode cX2_fablesWithMoral 15 = .ok (.ireturn, 1) := by decide +kernel
set_option maxRecDepth 20000 in
theorem ggX2_fablesWithBeast_X2_needBeast : GoodIn wsX2_fablesWithBeast wsX2_needBeast := goodIn_ca (goodIn_r _ [5, 6, 7] (by decide +kernel) (by decide +kernel)) (goodIn_sub (fun _ h => List.mem_cons_of_mem _ (List.mem_append_right _ h)) (by decide +kernel))
set_option maxRecDepth 20000 in
theorem gX2_fablesWithBeast_X2_needBeast : GoodIn wsX2_fablesWithBeast (va_wsS RX2 34 yX2_needBeast wsX2_needBeast) := goodIn_app (goodIn_of _ (by decide +kernel)) ggX2_fablesWithBeast_X2_needBeast
set_option maxRecDepth 20000 in
theorem ggX2_fablesWithBeast_X0_withBeast : GoodIn wsX2_fablesWithBeast wsX0_withBeast := goodIn_r _ [12, 13, 14, 15, 4, 16, 31, 32, 33, 34, 35, 36, 37] (by decide +kernel) (by decide +kernel)
set_option maxRecDepth 20000 in
theorem gX2_fablesWithBeast_X0_withBeast : GoodIn wsX2_fablesWithBeast (wsV RX2 154 RX0 yX0_withBeast wsX0_withBeast) := goodIn_app (goodIn_of _ (by decide +kernel)) ggX2_fablesWithBeast_X0_withBeast
set_option maxRecDepth 20000 in
theorem ggX2_fablesWithBeast_X2_size : GoodIn wsX2_fablesWithBeast wsX2_size := goodIn_r _ [19, 20, 21, 22, 23, 24, 25, 26] (by decide +kernel) (by decide +kernel)
set_option maxRecDepth 20000 in
theorem gX2_fablesWithBeast_X2_size : GoodIn wsX2_fablesWithBeast (va_wsS RX2 70 yX2_size wsX2_size) := goodIn_app (goodIn_of _ (by decide +kernel)) ggX2_fablesWithBeast_X2_size
theorem dX2_fablesWithBeast_0 : decode cX2_fablesWithBeast 0 = .ok (.iload_n 1, 1) := by decide +kernel
theorem dX2_fablesWithBeast_1 : decode cX2_fablesWithBeast 1 = .ok (.invokestatic 34, 3) := by decide +kernel
theorem dX2_fablesWithBeast_4 : decode cX2_fablesWithBeast 4 = .ok (.aload_n 0, 1) := by decide +kernel
theorem dX2_fablesWithBeast_5 : decode cX2_fablesWithBeast 5 = .ok (.getfield 10, 3) := by decide +kernel
theorem dX2_fablesWithBeast_8 : decode cX2_fablesWithBeast 8 = .ok (.iload_n 1, 1) := by decide +kernel
theorem dX2_fablesWithBeast_9 : decode cX2_fablesWithBeast 9 = .ok (.invokevirtual 154, 3) := by decide +kernel
theorem dX2_fablesWithBeast_12 : decode cX2_fablesWithBeast 12 = .ok (.invokestatic 70, 3) := by decide +kernel
theorem dX2_fablesWithBeast_15 : decode cX2_fablesWithBeast 15 = .ok (.ireturn, 1) := by decide +kernel
set_option maxRecDepth 20000 in
theorem ggX2_favouriteMoral_X0_withMoral : GoodIn wsX2_favouriteMoral wsX0_withMoral := goodIn_r _ [7, 8, 9, 30, 31, 32, 33, 34, 35, 36] (by decide +kernel) (by decide +kernel)
set_option maxRecDepth 20000 in
theorem gX2_favouriteMoral_X0_withMoral : GoodIn wsX2_favouriteMoral (wsV RX2 151 RX0 yX0_withMoral wsX0_withMoral) := goodIn_app (goodIn_of _ (by decide +kernel)) ggX2_favouriteMoral_X0_withMoral
set_option maxRecDepth 20000 in
theorem ggX2_favouriteMoral_X1_count : GoodIn wsX2_favouriteMoral wsX1_count := goodIn_r _ [14, 15, 16, 17, 18, 19, 20, 21, 22, 23, 24, 25, 37, 38, 39, 40, 41, 42, 43] (by decide +kernel) (by decide +kernel)
set_option maxRecDepth 20000 in
theorem gX2_favouriteMoral_X1_count : GoodIn wsX2_favouriteMoral (wsV RX2 114 RX1 yX1_count wsX1_count) := goodIn_app (goodIn_of _ (by decide +kernel)) ggX2_favouriteMoral_X1_count
theorem dX2_favouriteMoral_0 : decode cX2_favouriteMoral 0 = .ok (.iconst (-1), 1) := by decide +kernel
theorem dX2_favouriteMoral_1 : decode cX2_favouriteMoral 1 = .ok (.istore_n 1, 1) := by decide +kernel
theorem dX2_favouriteMoral_2 : decode cX2_favouriteMoral 2 = .ok (.iconst 0, 1) := by decide +kernel
theorem dX2_favouriteMoral_3 : decode cX2_favouriteMoral 3 = .ok (.istore_n 2, 1) := by decide +kernel
theorem dX2_favouriteMoral_4 : decode cX2_favouriteMoral 4 = .ok (.iconst 0, 1) := by decide +kernel
theorem dX2_favouriteMoral_5 : decode cX2_favouriteMoral 5 = .ok (.istore_n 3, 1) := by decide +kernel
theorem dX2_favouriteMoral_6 : decode cX2_favouriteMoral 6 = .ok (.iload_n 3, 1) := by decide +kernel
theorem dX2_favouriteMoral_7 : decode cX2_favouriteMoral 7 = .ok (.bipush 10, 2) := by decide +kernel
theorem dX2_favouriteMoral_9 : decode cX2_favouriteMoral 9 = .ok (.if_icmp .ge 37, 3) := by decide +kernel
theorem dX2_favouriteMoral_12 : decode cX2_favouriteMoral 12 = .ok (.aload_n 0, 1) := by decide +kernel
theorem dX2_favouriteMoral_13 : decode cX2_favouriteMoral 13 = .ok (.getfield 19, 3) := by decide +kernel
theorem dX2_favouriteMoral_16 : decode cX2_favouriteMoral 16 = .ok (.aload_n 0, 1) := by decide +kernel
theorem dX2_favouriteMoral_17 : decode cX2_favouriteMoral 17 = .ok (.getfield 10, 3) := by decide +kernel
theorem dX2_favouriteMoral_20 : decode cX2_favouriteMoral 20 = .ok (.iload_n 3, 1) := by decide +kernel
theorem dX2_favouriteMoral_21 : decode cX2_favouriteMoral 21 = .ok (.invokevirtual 151, 3) := by decide +kernel
theorem dX2_favouriteMoral_24 : decode cX2_favouriteMoral 24 = .ok (.invokevirtual 114, 3) := by decide +kernel
theorem dX2_favouriteMoral_27 : decode cX2_favouriteMoral 27 = .ok (.istore 4, 2) := by decide +kernel
theorem dX2_favouriteMoral_29 : decode cX2_favouriteMoral 29 = .ok (.iload 4, 2) := by decide +kernel
theorem dX2_favouriteMoral_31 : decode cX2_favouriteMoral 31 = .ok (.iload_n 2, 1) := by decide +kernel
theorem dX2_favouriteMoral_32 : decode cX2_favouriteMoral 32 = .ok (.if_icmp .le 8, 3) := by decide +kernel
theorem dX2_favouriteMoral_35 : decode cX2_favouriteMoral 35 = .ok (.iload 4, 2) := by decide +kernel
theorem dX2_favouriteMoral_37 : decode cX2_favouriteMoral 37 = .ok (.istore_n 2, 1) := by decide +kernel
theorem dX2_favouriteMoral_38 : decode cX2_favouriteMoral 38 = .ok (.iload_n 3, 1) := by decide +kernel
theorem dX2_favouriteMoral_39 : decode cX2_favouriteMoral 39 = .ok (.istore_n 1, 1) := by decide +kernel
theorem dX2_favouriteMoral_40 : decode cX2_favouriteMoral 40 = .ok (.iinc 3 1, 3) := by decide +kernel
theorem dX2_favouriteMoral_43 : decode cX2_favouriteMoral 43 = .ok (.goto (-37), 3) := by decide +kernel
theorem dX2_favouriteMoral_46 : decode cX2_favouriteMoral 46 = .ok (.iload_n 1, 1) := by decide +kernel
theorem dX2_favouriteMoral_47 : decode cX2_favouriteMoral 47 = .ok (.ireturn, 1) := by decide +kernel
set_option maxRecDepth 20000 in
theorem ggX2_favouriteBeast_X0_withBeast : GoodIn wsX2_favouriteBeast wsX0_withBeast := goodIn_r _ [7, 8, 9, 10, 11, 12, 32, 33, 34, 35, 36, 37, 38] (by decide +kernel) (by decide +kernel)
set_option maxRecDepth 20000 in
theorem gX2_favouriteBeast_X0_withBeast : GoodIn wsX2_favouriteBeast (wsV RX2 154 RX0 yX0_withBeast wsX0_withBeast) := goodIn_app (goodIn_of _ (by decide +kernel)) ggX2_favouriteBeast_X0_withBeast
set_option maxRecDepth 20000 in
theorem ggX2_favouriteBeast_X1_count : GoodIn wsX2_favouriteBeast wsX1_count := goodIn_r _ [17, 18, 19, 11, 20, 21, 22, 23, 24, 25, 26, 27, 39, 40, 41, 42, 43, 44, 45] (by decide +kernel) (by decide +kernel)
set_option maxRecDepth 20000 in
theorem gX2_favouriteBeast_X1_count : GoodIn wsX2_favouriteBeast (wsV RX2 114 RX1 yX1_count wsX1_count) := goodIn_app (goodIn_of _ (by decide +kernel)) ggX2_favouriteBeast_X1_count
theorem dX2_favouriteBeast_0 : decode cX2_favouriteBeast 0 = .ok (.iconst (-1), 1) := by decide +kernel
theorem dX2_favouriteBeast_1 : decode cX2_favouriteBeast 1 = .ok (.istore_n 1, 1) := by decide +kernel
theorem dX2_favouriteBeast_2 : decode cX2_favouriteBeast 2 = .ok (.iconst 0, 1) := by decide +kernel
theorem dX2_favouriteBeast_3 : decode cX2_favouriteBeast 3 = .ok (.istore_n 2, 1) := by decide +kernel
theorem dX2_favouriteBeast_4 : decode cX2_favouriteBeast 4 = .ok (.iconst 0, 1) := by decide +kernel
theorem dX2_favouriteBeast_5 : decode cX2_favouriteBeast 5 = .ok (.istore_n 3, 1) := by decide +kernel
theorem dX2_favouriteBeast_6 : decode cX2_favouriteBeast 6 = .ok (.iload_n 3, 1) := by decide +kernel
theorem dX2_favouriteBeast_7 : decode cX2_favouriteBeast 7 = .ok (.bipush 12, 2) := by decide +kernel
theorem dX2_favouriteBeast_9 : decode cX2_favouriteBeast 9 = .ok (.if_icmp .ge 37, 3) := by decide +kernel
theorem dX2_favouriteBeast_12 : decode cX2_favouriteBeast 12 = .ok (.aload_n 0, 1) := by decide +kernel
theorem dX2_favouriteBeast_13 : decode cX2_favouriteBeast 13 = .ok (.getfield 19, 3) := by decide +kernel
theorem dX2_favouriteBeast_16 : decode cX2_favouriteBeast 16 = .ok (.aload_n 0, 1) := by decide +kernel
theorem dX2_favouriteBeast_17 : decode cX2_favouriteBeast 17 = .ok (.getfield 10, 3) := by decide +kernel
theorem dX2_favouriteBeast_20 : decode cX2_favouriteBeast 20 = .ok (.iload_n 3, 1) := by decide +kernel
theorem dX2_favouriteBeast_21 : decode cX2_favouriteBeast 21 = .ok (.invokevirtual 154, 3) := by decide +kernel
theorem dX2_favouriteBeast_24 : decode cX2_favouriteBeast 24 = .ok (.invokevirtual 114, 3) := by decide +kernel
theorem dX2_favouriteBeast_27 : decode cX2_favouriteBeast 27 = .ok (.istore 4, 2) := by decide +kernel
theorem dX2_favouriteBeast_29 : decode cX2_favouriteBeast 29 = .ok (.iload 4, 2) := by decide +kernel
theorem dX2_favouriteBeast_31 : decode cX2_favouriteBeast 31 = .ok (.iload_n 2, 1) := by decide +kernel
theorem dX2_favouriteBeast_32 : decode cX2_favouriteBeast 32 = .ok (.if_icmp .le 8, 3) := by decide +kernel
theorem dX2_favouriteBeast_35 : decode cX2_favouriteBeast 35 = .ok (.iload 4, 2) := by decide +kernel
theorem dX2_favouriteBeast_37 : decode cX2_favouriteBeast 37 = .ok (.istore_n 2, 1) := by decide +kernel
theorem dX2_favouriteBeast_38 : decode cX2_favouriteBeast 38 = .ok (.iload_n 3, 1) := by decide +kernel
theorem dX2_favouriteBeast_39 : decode cX2_favouriteBeast 39 = .ok (.istore_n 1, 1) := by decide +kernel
theorem dX2_favouriteBeast_40 : decode cX2_favouriteBeast 40 = .ok (.iinc 3 1, 3) := by decide +kernel
theorem dX2_favouriteBeast_43 : decode cX2_favouriteBeast 43 = .ok (.goto (-37), 3) := by decide +kernel
theorem dX2_favouriteBeast_46 : decode cX2_favouriteBeast 46 = .ok (.iload_n 1, 1) := by decide +kernel
theorem dX2_favouriteBeast_47 : decode cX2_favouriteBeast 47 = .ok (.ireturn, 1) := by decide +kernel
set_option maxRecDepth 20000 in
theorem ggX2_meanBeasts_X2_size : GoodIn wsX2_meanBeasts wsX2_size := goodIn_r _ [7, 8, 9, 10, 11, 12, 13, 14] (by decide +kernel) (by decide +kernel)
set_option maxRecDepth 20000 in
theorem gX2_meanBeasts_X2_size : GoodIn wsX2_meanBeasts (va_wsS RX2 70 yX2_size wsX2_size) := goodIn_app (goodIn_of _ (by decide +kernel)) ggX2_meanBeasts_X2_size
theorem dX2_meanBeasts_0 : decode cX2_meanBeasts 0 = .ok (.aload_n 0, 1) := by decide +kernel
theorem dX2_meanBeasts_1 : decode cX2_meanBeasts 1 = .ok (.getfield 10, 3) := by decide +kernel
theorem dX2_meanBeasts_4 : decode cX2_meanBeasts 4 = .ok (.getfield 146, 3) := by decide +kernel
theorem dX2_meanBeasts_7 : decode cX2_meanBeasts 7 = .ok (.ifCond .ne 5, 3) := by decide +kernel
theorem dX2_meanBeasts_10 : decode cX2_meanBeasts 10 = .ok (.dconst 0, 1) := by decide +kernel
theorem dX2_meanBeasts_11 : decode cX2_meanBeasts 11 = .ok (.dreturn, 1) := by decide +kernel
theorem dX2_meanBeasts_12 : decode cX2_meanBeasts 12 = .ok (.iconst 0, 1) := by decide +kernel
theorem dX2_meanBeasts_13 : decode cX2_meanBeasts 13 = .ok (.istore_n 1, 1) := by decide +kernel
theorem dX2_meanBeasts_14 : decode cX2_meanBeasts 14 = .ok (.iconst 0, 1) := by decide +kernel
theorem dX2_meanBeasts_15 : decode cX2_meanBeasts 15 = .ok (.istore_n 2, 1) := by decide +kernel
theorem dX2_meanBeasts_16 : decode cX2_meanBeasts 16 = .ok (.iload_n 2, 1) := by decide +kernel
theorem dX2_meanBeasts_17 : decode cX2_meanBeasts 17 = .ok (.aload_n 0, 1) := by decide +kernel
theorem dX2_meanBeasts_18 : decode cX2_meanBeasts 18 = .ok (.getfield 10, 3) := by decide +kernel
theorem dX2_meanBeasts_21 : decode cX2_meanBeasts 21 = .ok (.getfield 146, 3) := by decide +kernel
theorem dX2_meanBeasts_24 : decode cX2_meanBeasts 24 = .ok (.if_icmp .ge 24, 3) := by decide +kernel
theorem dX2_meanBeasts_27 : decode cX2_meanBeasts 27 = .ok (.iload_n 1, 1) := by decide +kernel
theorem dX2_meanBeasts_28 : decode cX2_meanBeasts 28 = .ok (.aload_n 0, 1) := by decide +kernel
theorem dX2_meanBeasts_29 : decode cX2_meanBeasts 29 = .ok (.getfield 10, 3) := by decide +kernel
theorem dX2_meanBeasts_32 : decode cX2_meanBeasts 32 = .ok (.getfield 50, 3) := by decide +kernel
theorem dX2_meanBeasts_35 : decode cX2_meanBeasts 35 = .ok (.iload_n 2, 1) := by decide +kernel
theorem dX2_meanBeasts_36 : decode cX2_meanBeasts 36 = .ok (.iaload, 1) := by decide +kernel
theorem dX2_meanBeasts_37 : decode cX2_meanBeasts 37 = .ok (.invokestatic 70, 3) := by decide +kernel
theorem dX2_meanBeasts_40 : decode cX2_meanBeasts 40 = .ok (.iadd, 1) := by decide +kernel
theorem dX2_meanBeasts_41 : decode cX2_meanBeasts 41 = .ok (.istore_n 1, 1) := by decide +kernel
theorem dX2_meanBeasts_42 : decode cX2_meanBeasts 42 = .ok (.iinc 2 1, 3) := by decide +kernel
theorem dX2_meanBeasts_45 : decode cX2_meanBeasts 45 = .ok (.goto (-29), 3) := by decide +kernel
theorem dX2_meanBeasts_48 : decode cX2_meanBeasts 48 = .ok (.iload_n 1, 1) := by decide +kernel
theorem dX2_meanBeasts_49 : decode cX2_meanBeasts 49 = .ok (.i2d, 1) := by decide +kernel
theorem dX2_meanBeasts_50 : decode cX2_meanBeasts 50 = .ok (.aload_n 0, 1) := by decide +kernel
theorem dX2_meanBeasts_51 : decode cX2_meanBeasts 51 = .ok (.getfield 10, 3) := by decide +kernel
theorem dX2_meanBeasts_54 : decode cX2_meanBeasts 54 = .ok (.getfield 146, 3) := by decide +kernel
theorem dX2_meanBeasts_57 : decode cX2_meanBeasts 57 = .ok (.i2d, 1) := by decide +kernel
theorem dX2_meanBeasts_58 : decode cX2_meanBeasts 58 = .ok (.ddiv, 1) := by decide +kernel
theorem dX2_meanBeasts_59 : decode cX2_meanBeasts 59 = .ok (.dreturn, 1) := by decide +kernel
theorem dX2_needFable_0 : decode cX2_needFable 0 = .ok (.iload_n 1, 1) := by decide +kernel
theorem dX2_needFable_1 : decode cX2_needFable 1 = .ok (.ifCond .lt 14, 3) := by decide +kernel
theorem dX2_needFable_4 : decode cX2_needFable 4 = .ok (.iload_n 1, 1) := by decide +kernel
theorem dX2_needFable_5 : decode cX2_needFable 5 = .ok (.aload_n 0, 1) := by decide +kernel
theorem dX2_needFable_6 : decode cX2_needFable 6 = .ok (.getfield 10, 3) := by decide +kernel
theorem dX2_needFable_9 : decode cX2_needFable 9 = .ok (.getfield 146, 3) := by decide +kernel
theorem dX2_needFable_12 : decode cX2_needFable 12 = .ok (.if_icmp .lt 13, 3) := by decide +kernel
theorem dX2_needFable_15 : decode cX2_needFable 15 = .ok (.new 238, 3) := by decide +kernel
theorem dX2_needFable_18 : decode cX2_needFable 18 = .ok (.dup, 1) := by decide +kernel
theorem dX2_needFable_19 : decode cX2_needFable 19 = .ok (.ldc 240, 2) := by decide +kernel
theorem dX2_needFable_21 : decode cX2_needFable 21 = .ok (.invokespecial 242, 3) := by decide +kernel
theorem dX2_needFable_24 : decode cX2_needFable 24 = .ok (.athrow, 1) := by decide +kernel
theorem dX2_needFable_25 : decode cX2_needFable 25 = .ok (.return_, 1) := by decide +kernel
theorem dX2_needFreePage_0 : decode cX2_needFreePage 0 = .ok (.aload_n 0, 1) := by decide +kernel
theorem dX2_needFreePage_1 : decode cX2_needFreePage 1 = .ok (.getfield 10, 3) := by decide +kernel
theorem dX2_needFreePage_4 : decode cX2_needFreePage 4 = .ok (.getfield 146, 3) := by decide +kernel
theorem dX2_needFreePage_7 : decode cX2_needFreePage 7 = .ok (.bipush 20, 2) := by decide +kernel
theorem dX2_needFreePage_9 : decode cX2_needFreePage 9 = .ok (.if_icmp .lt 13, 3) := by decide +kernel
theorem dX2_needFreePage_12 : decode cX2_needFreePage 12 = .ok (.new 58, 3) := by decide +kernel
theorem dX2_needFreePage_15 : decode cX2_needFreePage 15 = .ok (.dup, 1) := by decide +kernel
theorem dX2_needFreePage_16 : decode cX2_needFreePage 16 = .ok (.ldc 243, 2) := by decide +kernel
theorem dX2_needFreePage_18 : decode cX2_needFreePage 18 = .ok (.invokespecial 62, 3) := by decide +kernel
theorem dX2_needFreePage_21 : decode cX2_needFreePage 21 = .ok (.athrow, 1) := by decide +kernel
theorem dX2_needFreePage_22 : decode cX2_needFreePage 22 = .ok (.return_, 1) := by decide +kernel
theorem dX2_needMoral_0 : decode cX2_needMoral 0 = .ok (.iload_n 0, 1) := by decide +kernel
theorem dX2_needMoral_1 : decode cX2_needMoral 1 = .ok (.ifCond .lt 9, 3) := by decide +kernel
theorem dX2_needMoral_4 : decode cX2_needMoral 4 = .ok (.iload_n 0, 1) := by decide +kernel
theorem dX2_needMoral_5 : decode cX2_needMoral 5 = .ok (.bipush 10, 2) := by decide +kernel
theorem dX2_needMoral_7 : decode cX2_needMoral 7 = .ok (.if_icmp .lt 13, 3) := by decide +kernel
theorem dX2_needMoral_10 : decode cX2_needMoral 10 = .ok (.new 238, 3) := by decide +kernel
theorem dX2_needMoral_13 : decode cX2_needMoral 13 = .ok (.dup, 1) := by decide +kernel
theorem dX2_needMoral_14 : decode cX2_needMoral 14 = .ok (.ldc 245, 2) := by decide +kernel
theorem dX2_needMoral_16 : decode cX2_needMoral 16 = .ok (.invokespecial 242, 3) := by decide +kernel
theorem dX2_needMoral_19 : decode cX2_needMoral 19 = .ok (.athrow, 1) := by decide +kernel
theorem dX2_needMoral_20 : decode cX2_needMoral 20 = .ok (.return_, 1) := by decide +kernel
theorem dX2_needBeast_0 : decode cX2_needBeast 0 = .ok (.iload_n 0, 1) := by decide +kernel
theorem dX2_needBeast_1 : decode cX2_needBeast 1 = .ok (.ifCond .lt 9, 3) := by decide +kernel
theorem dX2_needBeast_4 : decode cX2_needBeast 4 = .ok (.iload_n 0, 1) := by decide +kernel
theorem dX2_needBeast_5 : decode cX2_needBeast 5 = .ok (.bipush 12, 2) := by decide +kernel
theorem dX2_needBeast_7 : decode cX2_needBeast 7 = .ok (.if_icmp .lt 13, 3) := by decide +kernel
theorem dX2_needBeast_10 : decode cX2_needBeast 10 = .ok (.new 238, 3) := by decide +kernel
theorem dX2_needBeast_13 : decode cX2_needBeast 13 = .ok (.dup, 1) := by decide +kernel
theorem dX2_needBeast_14 : decode cX2_needBeast 14 = .ok (.ldc 247, 2) := by decide +kernel
theorem dX2_needBeast_16 : decode cX2_needBeast 16 = .ok (.invokespecial 242, 3) := by decide +kernel
theorem dX2_needBeast_19 : decode cX2_needBeast 19 = .ok (.athrow, 1) := by decide +kernel
theorem dX2_needBeast_20 : decode cX2_needBeast 20 = .ok (.return_, 1) := by decide +kernel
theorem dX2_needValley_0 : decode cX2_needValley 0 = .ok (.iload_n 0, 1) := by decide +kernel
theorem dX2_needValley_1 : decode cX2_needValley 1 = .ok (.ifCond .lt 9, 3) := by decide +kernel
theorem dX2_needValley_4 : decode cX2_needValley 4 = .ok (.iload_n 0, 1) := by decide +kernel
theorem dX2_needValley_5 : decode cX2_needValley 5 = .ok (.bipush 6, 2) := by decide +kernel
theorem dX2_needValley_7 : decode cX2_needValley 7 = .ok (.if_icmp .lt 13, 3) := by decide +kernel
theorem dX2_needValley_10 : decode cX2_needValley 10 = .ok (.new 238, 3) := by decide +kernel
theorem dX2_needValley_13 : decode cX2_needValley 13 = .ok (.dup, 1) := by decide +kernel
theorem dX2_needValley_14 : decode cX2_needValley 14 = .ok (.ldc 249, 2) := by decide +kernel
theorem dX2_needValley_16 : decode cX2_needValley 16 = .ok (.invokespecial 242, 3) := by decide +kernel
theorem dX2_needValley_19 : decode cX2_needValley 19 = .ok (.athrow, 1) := by decide +kernel
theorem dX2_needValley_20 : decode cX2_needValley 20 = .ok (.return_, 1) := by decide +kernel
theorem dX2_needSeasons_0 : decode cX2_needSeasons 0 = .ok (.iload_n 0, 1) := by decide +kernel
theorem dX2_needSeasons_1 : decode cX2_needSeasons 1 = .ok (.iconst 1, 1) := by decide +kernel
theorem dX2_needSeasons_2 : decode cX2_needSeasons 2 = .ok (.if_icmp .lt 8, 3) := by decide +kernel
theorem dX2_needSeasons_5 : decode cX2_needSeasons 5 = .ok (.iload_n 0, 1) := by decide +kernel
theorem dX2_needSeasons_6 : decode cX2_needSeasons 6 = .ok (.iload_n 1, 1) := by decide +kernel
theorem dX2_needSeasons_7 : decode cX2_needSeasons 7 = .ok (.if_icmp .le 13, 3) := by decide +kernel
theorem dX2_needSeasons_10 : decode cX2_needSeasons 10 = .ok (.new 85, 3) := by decide +kernel
theorem dX2_needSeasons_13 : decode cX2_needSeasons 13 = .ok (.dup, 1) := by decide +kernel
theorem dX2_needSeasons_14 : decode cX2_needSeasons 14 = .ok (.ldc 251, 2) := by decide +kernel
theorem dX2_needSeasons_16 : decode cX2_needSeasons 16 = .ok (.invokespecial 89, 3) := by decide +kernel
theorem dX2_needSeasons_19 : decode cX2_needSeasons 19 = .ok (.athrow, 1) := by decide +kernel
theorem dX2_needSeasons_20 : decode cX2_needSeasons 20 = .ok (.return_, 1) := by decide +kernel
theorem dX2_has_0 : decode cX2_has 0 = .ok (.iload_n 0, 1) := by decide +kernel
theorem dX2_has_1 : decode cX2_has 1 = .ok (.iload_n 1, 1) := by decide +kernel
theorem dX2_has_2 : decode cX2_has 2 = .ok (.ishr, 1) := by decide +kernel
theorem dX2_has_3 : decode cX2_has 3 = .ok (.iconst 1, 1) := by decide +kernel
theorem dX2_has_4 : decode cX2_has 4 = .ok (.iand, 1) := by decide +kernel
theorem dX2_has_5 : decode cX2_has 5 = .ok (.ifCond .eq 7, 3) := by decide +kernel
theorem dX2_has_8 : decode cX2_has 8 = .ok (.iconst 1, 1) := by decide +kernel
theorem dX2_has_9 : decode cX2_has 9 = .ok (.goto 4, 3) := by decide +kernel
theorem dX2_has_12 : decode cX2_has 12 = .ok (.iconst 0, 1) := by decide +kernel
theorem dX2_has_13 : decode cX2_has 13 = .ok (.ireturn, 1) := by decide +kernel
theorem dX2_turned_0 : decode cX2_turned 0 = .ok (.iload_n 0, 1) := by decide +kernel
theorem dX2_turned_1 : decode cX2_turned 1 = .ok (.iconst 1, 1) := by decide +kernel
theorem dX2_turned_2 : decode cX2_turned 2 = .ok (.iload_n 1, 1) := by decide +kernel
theorem dX2_turned_3 : decode cX2_turned 3 = .ok (.ishl, 1) := by decide +kernel
theorem dX2_turned_4 : decode cX2_turned 4 = .ok (.ixor, 1) := by decide +kernel
theorem dX2_turned_5 : decode cX2_turned 5 = .ok (.ireturn, 1) := by decide +kernel
set_option maxRecDepth 20000 in
theorem ggX2_size_J6_bitCount_0f7a4 : GoodIn wsX2_size wsJ6_bitCount_0f7a4 := goodIn_r _ [4, 5, 6, 7] (by decide +kernel) (by decide +kernel)
set_option maxRecDepth 20000 in
theorem gX2_size_J6_bitCount_0f7a4 : GoodIn wsX2_size (va_wsS RX2 253 yJ6_bitCount_0f7a4 wsJ6_bitCount_0f7a4) := goodIn_app (goodIn_of _ (by decide +kernel)) ggX2_size_J6_bitCount_0f7a4
theorem dX2_size_0 : decode cX2_size 0 = .ok (.iload_n 0, 1) := by decide +kernel
theorem dX2_size_1 : decode cX2_size 1 = .ok (.invokestatic 253, 3) := by decide +kernel
theorem dX2_size_4 : decode cX2_size 4 = .ok (.ireturn, 1) := by decide +kernel
theorem dX2_smallestAlone_0 : decode cX2_smallestAlone 0 = .ok (.iload_n 0, 1) := by decide +kernel
theorem dX2_smallestAlone_1 : decode cX2_smallestAlone 1 = .ok (.iload_n 0, 1) := by decide +kernel
theorem dX2_smallestAlone_2 : decode cX2_smallestAlone 2 = .ok (.ineg, 1) := by decide +kernel
theorem dX2_smallestAlone_3 : decode cX2_smallestAlone 3 = .ok (.iand, 1) := by decide +kernel
theorem dX2_smallestAlone_4 : decode cX2_smallestAlone 4 = .ok (.ireturn, 1) := by decide +kernel
end
section
theorem dX3_init_0 : decode cX3_init 0 = .ok (.aload_n 0, 1) := by decide +kernel
theorem dX3_init_1 : decode cX3_init 1 = .ok (.invokespecial 1, 3) := by decide +kernel
theorem dX3_init_4 : decode cX3_init 4 = .ok (.aload_n 0, 1) := by decide +kernel
theorem dX3_init_5 : decode cX3_init 5 = .ok (.bipush 20, 2) := by decide +kernel
theorem dX3_init_7 : decode cX3_init 7 = .ok (.anewarray 7, 3) := by decide +kernel
theorem dX3_init_10 : decode cX3_init 10 = .ok (.putfield 9, 3) := by decide +kernel
theorem dX3_init_13 : decode cX3_init 13 = .ok (.aload_n 0, 1) := by decide +kernel
theorem dX3_init_14 : decode cX3_init 14 = .ok (.bipush 20, 2) := by decide +kernel
theorem dX3_init_16 : decode cX3_init 16 = .ok (.anewarray 15, 3) := by decide +kernel
theorem dX3_init_19 : decode cX3_init 19 = .ok (.putfield 17, 3) := by decide +kernel
theorem dX3_init_22 : decode cX3_init 22 = .ok (.aload_n 0, 1) := by decide +kernel
theorem dX3_init_23 : decode cX3_init 23 = .ok (.bipush 20, 2) := by decide +kernel
theorem dX3_init_25 : decode cX3_init 25 = .ok (.bipush 6, 2) := by decide +kernel
theorem dX3_init_27 : decode cX3_init 27 = .ok (.multianewarray 21 2, 4) := by decide +kernel
theorem dX3_init_31 : decode cX3_init 31 = .ok (.putfield 22, 3) := by decide +kernel
theorem dX3_init_34 : decode cX3_init 34 = .ok (.aload_n 0, 1) := by decide +kernel
theorem dX3_init_35 : decode cX3_init 35 = .ok (.bipush 6, 2) := by decide +kernel
theorem dX3_init_37 : decode cX3_init 37 = .ok (.bipush 10, 2) := by decide +kernel
theorem dX3_init_39 : decode cX3_init 39 = .ok (.multianewarray 21 2, 4) := by decide +kernel
theorem dX3_init_43 : decode cX3_init 43 = .ok (.putfield 25, 3) := by decide +kernel
theorem dX3_init_46 : decode cX3_init 46 = .ok (.aload_n 0, 1) := by decide +kernel
theorem dX3_init_47 : decode cX3_init 47 = .ok (.bipush 6, 2) := by decide +kernel
theorem dX3_init_49 : decode cX3_init 49 = .ok (.bipush 12, 2) := by decide +kernel
theorem dX3_init_51 : decode cX3_init 51 = .ok (.multianewarray 21 2, 4) := by decide +kernel
theorem dX3_init_55 : decode cX3_init 55 = .ok (.putfield 28, 3) := by decide +kernel
theorem dX3_init_58 : decode cX3_init 58 = .ok (.aload_n 0, 1) := by decide +kernel
theorem dX3_init_59 : decode cX3_init 59 = .ok (.bipush 6, 2) := by decide +kernel
theorem dX3_init_61 : decode cX3_init 61 = .ok (.bipush 6, 2) := by decide +kernel
theorem dX3_init_63 : decode cX3_init 63 = .ok (.multianewarray 21 2, 4) := by decide +kernel
theorem dX3_init_67 : decode cX3_init 67 = .ok (.putfield 31, 3) := by decide +kernel
theorem dX3_init_70 : decode cX3_init 70 = .ok (.return_, 1) := by decide +kernel
theorem dX3_isBanned_0 : decode cX3_isBanned 0 = .ok (.aload_n 0, 1) := by decide +kernel
theorem dX3_isBanned_1 : decode cX3_isBanned 1 = .ok (.getfield 25, 3) := by decide +kernel
theorem dX3_isBanned_4 : decode cX3_isBanned 4 = .ok (.iload_n 2, 1) := by decide +kernel
theorem dX3_isBanned_5 : decode cX3_isBanned 5 = .ok (.aaload, 1) := by decide +kernel
theorem dX3_isBanned_6 : decode cX3_isBanned 6 = .ok (.aload_n 0, 1) := by decide +kernel
theorem dX3_isBanned_7 : decode cX3_isBanned 7 = .ok (.getfield 9, 3) := by decide +kernel
theorem dX3_isBanned_10 : decode cX3_isBanned 10 = .ok (.iload_n 1, 1) := by decide +kernel
theorem dX3_isBanned_11 : decode cX3_isBanned 11 = .ok (.aaload, 1) := by decide +kernel
theorem dX3_isBanned_12 : decode cX3_isBanned 12 = .ok (.iconst 0, 1) := by decide +kernel
theorem dX3_isBanned_13 : decode cX3_isBanned 13 = .ok (.iaload, 1) := by decide +kernel
theorem dX3_isBanned_14 : decode cX3_isBanned 14 = .ok (.baload, 1) := by decide +kernel
theorem dX3_isBanned_15 : decode cX3_isBanned 15 = .ok (.istore_n 3, 1) := by decide +kernel
theorem dX3_isBanned_16 : decode cX3_isBanned 16 = .ok (.iconst 0, 1) := by decide +kernel
theorem dX3_isBanned_17 : decode cX3_isBanned 17 = .ok (.istore 4, 2) := by decide +kernel
theorem dX3_isBanned_19 : decode cX3_isBanned 19 = .ok (.iload 4, 2) := by decide +kernel
theorem dX3_isBanned_21 : decode cX3_isBanned 21 = .ok (.bipush 12, 2) := by decide +kernel
theorem dX3_isBanned_23 : decode cX3_isBanned 23 = .ok (.if_icmp .ge 43, 3) := by decide +kernel
theorem dX3_isBanned_26 : decode cX3_isBanned 26 = .ok (.iload_n 3, 1) := by decide +kernel
theorem dX3_isBanned_27 : decode cX3_isBanned 27 = .ok (.ifCond .ne 27, 3) := by decide +kernel
theorem dX3_isBanned_30 : decode cX3_isBanned 30 = .ok (.aload_n 0, 1) := by decide +kernel
theorem dX3_isBanned_31 : decode cX3_isBanned 31 = .ok (.getfield 17, 3) := by decide +kernel
theorem dX3_isBanned_34 : decode cX3_isBanned 34 = .ok (.iload_n 1, 1) := by decide +kernel
theorem dX3_isBanned_35 : decode cX3_isBanned 35 = .ok (.aaload, 1) := by decide +kernel
theorem dX3_isBanned_36 : decode cX3_isBanned 36 = .ok (.iload 4, 2) := by decide +kernel
theorem dX3_isBanned_38 : decode cX3_isBanned 38 = .ok (.baload, 1) := by decide +kernel
theorem dX3_isBanned_39 : decode cX3_isBanned 39 = .ok (.ifCond .eq 19, 3) := by decide +kernel
theorem dX3_isBanned_42 : decode cX3_isBanned 42 = .ok (.aload_n 0, 1) := by decide +kernel
theorem dX3_isBanned_43 : decode cX3_isBanned 43 = .ok (.getfield 28, 3) := by decide +kernel
theorem dX3_isBanned_46 : decode cX3_isBanned 46 = .ok (.iload_n 2, 1) := by decide +kernel
theorem dX3_isBanned_47 : decode cX3_isBanned 47 = .ok (.aaload, 1) := by decide +kernel
theorem dX3_isBanned_48 : decode cX3_isBanned 48 = .ok (.iload 4, 2) := by decide +kernel
theorem dX3_isBanned_50 : decode cX3_isBanned 50 = .ok (.baload, 1) := by decide +kernel
theorem dX3_isBanned_51 : decode cX3_isBanned 51 = .ok (.ifCond .eq 7, 3) := by decide +kernel
theorem dX3_isBanned_54 : decode cX3_isBanned 54 = .ok (.iconst 1, 1) := by decide +kernel
theorem dX3_isBanned_55 : decode cX3_isBanned 55 = .ok (.goto 4, 3) := by decide +kernel
theorem dX3_isBanned_58 : decode cX3_isBanned 58 = .ok (.iconst 0, 1) := by decide +kernel
theorem dX3_isBanned_59 : decode cX3_isBanned 59 = .ok (.istore_n 3, 1) := by decide +kernel
theorem dX3_isBanned_60 : decode cX3_isBanned 60 = .ok (.iinc 4 1, 3) := by decide +kernel
theorem dX3_isBanned_63 : decode cX3_isBanned 63 = .ok (.goto (-44), 3) := by decide +kernel
theorem dX3_isBanned_66 : decode cX3_isBanned 66 = .ok (.iload_n 3, 1) := by decide +kernel
theorem dX3_isBanned_67 : decode cX3_isBanned 67 = .ok (.ireturn, 1) := by decide +kernel
set_option maxRecDepth 20000 in
theorem ggX3_pass_X3_isBanned : GoodIn wsX3_pass wsX3_isBanned := goodIn_r _ [14, 7, 8, 15, 16, 17, 18, 19, 20, 21, 22, 23, 24, 25] (by decide +kernel) (by decide +kernel)
set_option maxRecDepth 20000 in
theorem gX3_pass_X3_isBanned : GoodIn wsX3_pass (wsV RX3 49 RX3 yX3_isBanned wsX3_isBanned) := goodIn_app (goodIn_of _ (by decide +kernel)) ggX3_pass_X3_isBanned
theorem dX3_pass_0 : decode cX3_pass 0 = .ok (.iconst 0, 1) := by decide +kernel
theorem dX3_pass_1 : decode cX3_pass 1 = .ok (.istore_n 1, 1) := by decide +kernel
theorem dX3_pass_2 : decode cX3_pass 2 = .ok (.iload_n 1, 1) := by decide +kernel
theorem dX3_pass_3 : decode cX3_pass 3 = .ok (.aload_n 0, 1) := by decide +kernel
theorem dX3_pass_4 : decode cX3_pass 4 = .ok (.getfield 35, 3) := by decide +kernel
theorem dX3_pass_7 : decode cX3_pass 7 = .ok (.if_icmp .ge 65, 3) := by decide +kernel
theorem dX3_pass_10 : decode cX3_pass 10 = .ok (.iconst 0, 1) := by decide +kernel
theorem dX3_pass_11 : decode cX3_pass 11 = .ok (.istore_n 2, 1) := by decide +kernel
theorem dX3_pass_12 : decode cX3_pass 12 = .ok (.iload_n 2, 1) := by decide +kernel
theorem dX3_pass_13 : decode cX3_pass 13 = .ok (.bipush 6, 2) := by decide +kernel
theorem dX3_pass_15 : decode cX3_pass 15 = .ok (.if_icmp .ge 51, 3) := by decide +kernel
theorem dX3_pass_18 : decode cX3_pass 18 = .ok (.aload_n 0, 1) := by decide +kernel
theorem dX3_pass_19 : decode cX3_pass 19 = .ok (.getfield 22, 3) := by decide +kernel
theorem dX3_pass_22 : decode cX3_pass 22 = .ok (.iload_n 1, 1) := by decide +kernel
theorem dX3_pass_23 : decode cX3_pass 23 = .ok (.aaload, 1) := by decide +kernel
theorem dX3_pass_24 : decode cX3_pass 24 = .ok (.iload_n 2, 1) := by decide +kernel
theorem dX3_pass_25 : decode cX3_pass 25 = .ok (.baload, 1) := by decide +kernel
theorem dX3_pass_26 : decode cX3_pass 26 = .ok (.ifCond .eq 34, 3) := by decide +kernel
theorem dX3_pass_29 : decode cX3_pass 29 = .ok (.aload_n 0, 1) := by decide +kernel
theorem dX3_pass_30 : decode cX3_pass 30 = .ok (.iload_n 1, 1) := by decide +kernel
theorem dX3_pass_31 : decode cX3_pass 31 = .ok (.iload_n 2, 1) := by decide +kernel
theorem dX3_pass_32 : decode cX3_pass 32 = .ok (.invokevirtual 49, 3) := by decide +kernel
theorem dX3_pass_35 : decode cX3_pass 35 = .ok (.ifCond .ne 6, 3) := by decide +kernel
theorem dX3_pass_38 : decode cX3_pass 38 = .ok (.goto 22, 3) := by decide +kernel
theorem dX3_pass_41 : decode cX3_pass 41 = .ok (.aload_n 0, 1) := by decide +kernel
theorem dX3_pass_42 : decode cX3_pass 42 = .ok (.getfield 22, 3) := by decide +kernel
theorem dX3_pass_45 : decode cX3_pass 45 = .ok (.iload_n 1, 1) := by decide +kernel
theorem dX3_pass_46 : decode cX3_pass 46 = .ok (.aaload, 1) := by decide +kernel
theorem dX3_pass_47 : decode cX3_pass 47 = .ok (.iload_n 2, 1) := by decide +kernel
theorem dX3_pass_48 : decode cX3_pass 48 = .ok (.iconst 0, 1) := by decide +kernel
theorem dX3_pass_49 : decode cX3_pass 49 = .ok (.bastore, 1) := by decide +kernel
theorem dX3_pass_50 : decode cX3_pass 50 = .ok (.aload_n 0, 1) := by decide +kernel
theorem dX3_pass_51 : decode cX3_pass 51 = .ok (.dup, 1) := by decide +kernel
theorem dX3_pass_52 : decode cX3_pass 52 = .ok (.getfield 42, 3) := by decide +kernel
theorem dX3_pass_55 : decode cX3_pass 55 = .ok (.iconst 1, 1) := by decide +kernel
theorem dX3_pass_56 : decode cX3_pass 56 = .ok (.iadd, 1) := by decide +kernel
theorem dX3_pass_57 : decode cX3_pass 57 = .ok (.putfield 42, 3) := by decide +kernel
theorem dX3_pass_60 : decode cX3_pass 60 = .ok (.iinc 2 1, 3) := by decide +kernel
theorem dX3_pass_63 : decode cX3_pass 63 = .ok (.goto (-51), 3) := by decide +kernel
theorem dX3_pass_66 : decode cX3_pass 66 = .ok (.iinc 1 1, 3) := by decide +kernel
theorem dX3_pass_69 : decode cX3_pass 69 = .ok (.goto (-67), 3) := by decide +kernel
theorem dX3_pass_72 : decode cX3_pass 72 = .ok (.bipush 20, 2) := by decide +kernel
theorem dX3_pass_74 : decode cX3_pass 74 = .ok (.bipush 6, 2) := by decide +kernel
theorem dX3_pass_76 : decode cX3_pass 76 = .ok (.multianewarray 21 2, 4) := by decide +kernel
theorem dX3_pass_80 : decode cX3_pass 80 = .ok (.astore_n 1, 1) := by decide +kernel
theorem dX3_pass_81 : decode cX3_pass 81 = .ok (.iconst 0, 1) := by decide +kernel
theorem dX3_pass_82 : decode cX3_pass 82 = .ok (.istore_n 2, 1) := by decide +kernel
theorem dX3_pass_83 : decode cX3_pass 83 = .ok (.iload_n 2, 1) := by decide +kernel
theorem dX3_pass_84 : decode cX3_pass 84 = .ok (.aload_n 0, 1) := by decide +kernel
theorem dX3_pass_85 : decode cX3_pass 85 = .ok (.getfield 35, 3) := by decide +kernel
theorem dX3_pass_88 : decode cX3_pass 88 = .ok (.if_icmp .ge 169, 3) := by decide +kernel
theorem dX3_pass_91 : decode cX3_pass 91 = .ok (.iconst 0, 1) := by decide +kernel
theorem dX3_pass_92 : decode cX3_pass 92 = .ok (.istore_n 3, 1) := by decide +kernel
theorem dX3_pass_93 : decode cX3_pass 93 = .ok (.iload_n 3, 1) := by decide +kernel
theorem dX3_pass_94 : decode cX3_pass 94 = .ok (.bipush 6, 2) := by decide +kernel
theorem dX3_pass_96 : decode cX3_pass 96 = .ok (.if_icmp .ge 155, 3) := by decide +kernel
theorem dX3_pass_99 : decode cX3_pass 99 = .ok (.aload_n 0, 1) := by decide +kernel
theorem dX3_pass_100 : decode cX3_pass 100 = .ok (.getfield 22, 3) := by decide +kernel
theorem dX3_pass_103 : decode cX3_pass 103 = .ok (.iload_n 2, 1) := by decide +kernel
theorem dX3_pass_104 : decode cX3_pass 104 = .ok (.aaload, 1) := by decide +kernel
theorem dX3_pass_105 : decode cX3_pass 105 = .ok (.iload_n 3, 1) := by decide +kernel
theorem dX3_pass_106 : decode cX3_pass 106 = .ok (.baload, 1) := by decide +kernel
theorem dX3_pass_107 : decode cX3_pass 107 = .ok (.ifCond .ne 6, 3) := by decide +kernel
theorem dX3_pass_110 : decode cX3_pass 110 = .ok (.goto 135, 3) := by decide +kernel
theorem dX3_pass_113 : decode cX3_pass 113 = .ok (.aload_n 1, 1) := by decide +kernel
theorem dX3_pass_114 : decode cX3_pass 114 = .ok (.iload_n 2, 1) := by decide +kernel
theorem dX3_pass_115 : decode cX3_pass 115 = .ok (.aaload, 1) := by decide +kernel
theorem dX3_pass_116 : decode cX3_pass 116 = .ok (.iload_n 3, 1) := by decide +kernel
theorem dX3_pass_117 : decode cX3_pass 117 = .ok (.iconst 1, 1) := by decide +kernel
theorem dX3_pass_118 : decode cX3_pass 118 = .ok (.bastore, 1) := by decide +kernel
theorem dX3_pass_119 : decode cX3_pass 119 = .ok (.iconst 0, 1) := by decide +kernel
theorem dX3_pass_120 : decode cX3_pass 120 = .ok (.istore 4, 2) := by decide +kernel
theorem dX3_pass_122 : decode cX3_pass 122 = .ok (.iload 4, 2) := by decide +kernel
theorem dX3_pass_124 : decode cX3_pass 124 = .ok (.bipush 6, 2) := by decide +kernel
theorem dX3_pass_126 : decode cX3_pass 126 = .ok (.if_icmp .ge 119, 3) := by decide +kernel
theorem dX3_pass_129 : decode cX3_pass 129 = .ok (.aload_n 0, 1) := by decide +kernel
theorem dX3_pass_130 : decode cX3_pass 130 = .ok (.getfield 31, 3) := by decide +kernel
theorem dX3_pass_133 : decode cX3_pass 133 = .ok (.iload_n 3, 1) := by decide +kernel
theorem dX3_pass_134 : decode cX3_pass 134 = .ok (.aaload, 1) := by decide +kernel
theorem dX3_pass_135 : decode cX3_pass 135 = .ok (.iload 4, 2) := by decide +kernel
theorem dX3_pass_137 : decode cX3_pass 137 = .ok (.baload, 1) := by decide +kernel
theorem dX3_pass_138 : decode cX3_pass 138 = .ok (.ifCond .ne 6, 3) := by decide +kernel
theorem dX3_pass_141 : decode cX3_pass 141 = .ok (.goto 98, 3) := by decide +kernel
theorem dX3_pass_144 : decode cX3_pass 144 = .ok (.iload_n 2, 1) := by decide +kernel
theorem dX3_pass_145 : decode cX3_pass 145 = .ok (.istore 5, 2) := by decide +kernel
theorem dX3_pass_147 : decode cX3_pass 147 = .ok (.aload_n 0, 1) := by decide +kernel
theorem dX3_pass_148 : decode cX3_pass 148 = .ok (.iload_n 2, 1) := by decide +kernel
theorem dX3_pass_149 : decode cX3_pass 149 = .ok (.iload 4, 2) := by decide +kernel
theorem dX3_pass_151 : decode cX3_pass 151 = .ok (.invokevirtual 49, 3) := by decide +kernel
theorem dX3_pass_154 : decode cX3_pass 154 = .ok (.ifCond .eq 72, 3) := by decide +kernel
theorem dX3_pass_157 : decode cX3_pass 157 = .ok (.iconst (-1), 1) := by decide +kernel
theorem dX3_pass_158 : decode cX3_pass 158 = .ok (.istore 5, 2) := by decide +kernel
theorem dX3_pass_160 : decode cX3_pass 160 = .ok (.aload_n 0, 1) := by decide +kernel
theorem dX3_pass_161 : decode cX3_pass 161 = .ok (.getfield 35, 3) := by decide +kernel
theorem dX3_pass_164 : decode cX3_pass 164 = .ok (.iconst 1, 1) := by decide +kernel
theorem dX3_pass_165 : decode cX3_pass 165 = .ok (.isub, 1) := by decide +kernel
theorem dX3_pass_166 : decode cX3_pass 166 = .ok (.istore 6, 2) := by decide +kernel
theorem dX3_pass_168 : decode cX3_pass 168 = .ok (.iload 6, 2) := by decide +kernel
theorem dX3_pass_170 : decode cX3_pass 170 = .ok (.ifCond .lt 56, 3) := by decide +kernel
theorem dX3_pass_173 : decode cX3_pass 173 = .ok (.aload_n 0, 1) := by decide +kernel
theorem dX3_pass_174 : decode cX3_pass 174 = .ok (.getfield 25, 3) := by decide +kernel
theorem dX3_pass_177 : decode cX3_pass 177 = .ok (.iload 4, 2) := by decide +kernel
theorem dX3_pass_179 : decode cX3_pass 179 = .ok (.aaload, 1) := by decide +kernel
theorem dX3_pass_180 : decode cX3_pass 180 = .ok (.aload_n 0, 1) := by decide +kernel
theorem dX3_pass_181 : decode cX3_pass 181 = .ok (.getfield 9, 3) := by decide +kernel
theorem dX3_pass_184 : decode cX3_pass 184 = .ok (.iload_n 2, 1) := by decide +kernel
theorem dX3_pass_185 : decode cX3_pass 185 = .ok (.aaload, 1) := by decide +kernel
theorem dX3_pass_186 : decode cX3_pass 186 = .ok (.iconst 0, 1) := by decide +kernel
theorem dX3_pass_187 : decode cX3_pass 187 = .ok (.iaload, 1) := by decide +kernel
theorem dX3_pass_188 : decode cX3_pass 188 = .ok (.baload, 1) := by decide +kernel
theorem dX3_pass_189 : decode cX3_pass 189 = .ok (.ifCond .ne 37, 3) := by decide +kernel
theorem dX3_pass_192 : decode cX3_pass 192 = .ok (.aload_n 0, 1) := by decide +kernel
theorem dX3_pass_193 : decode cX3_pass 193 = .ok (.getfield 9, 3) := by decide +kernel
theorem dX3_pass_196 : decode cX3_pass 196 = .ok (.iload 6, 2) := by decide +kernel
theorem dX3_pass_198 : decode cX3_pass 198 = .ok (.aaload, 1) := by decide +kernel
theorem dX3_pass_199 : decode cX3_pass 199 = .ok (.iconst 2, 1) := by decide +kernel
theorem dX3_pass_200 : decode cX3_pass 200 = .ok (.iaload, 1) := by decide +kernel
theorem dX3_pass_201 : decode cX3_pass 201 = .ok (.iload_n 2, 1) := by decide +kernel
theorem dX3_pass_202 : decode cX3_pass 202 = .ok (.if_icmp .ne 18, 3) := by decide +kernel
theorem dX3_pass_205 : decode cX3_pass 205 = .ok (.aload_n 0, 1) := by decide +kernel
theorem dX3_pass_206 : decode cX3_pass 206 = .ok (.iload 6, 2) := by decide +kernel
theorem dX3_pass_208 : decode cX3_pass 208 = .ok (.iload 4, 2) := by decide +kernel
theorem dX3_pass_210 : decode cX3_pass 210 = .ok (.invokevirtual 49, 3) := by decide +kernel
theorem dX3_pass_213 : decode cX3_pass 213 = .ok (.ifCond .ne 7, 3) := by decide +kernel
theorem dX3_pass_216 : decode cX3_pass 216 = .ok (.iload 6, 2) := by decide +kernel
theorem dX3_pass_218 : decode cX3_pass 218 = .ok (.istore 5, 2) := by decide +kernel
theorem dX3_pass_220 : decode cX3_pass 220 = .ok (.iinc 6 (-1), 3) := by decide +kernel
theorem dX3_pass_223 : decode cX3_pass 223 = .ok (.goto (-55), 3) := by decide +kernel
theorem dX3_pass_226 : decode cX3_pass 226 = .ok (.iload 5, 2) := by decide +kernel
theorem dX3_pass_228 : decode cX3_pass 228 = .ok (.ifCond .lt 11, 3) := by decide +kernel
theorem dX3_pass_231 : decode cX3_pass 231 = .ok (.aload_n 1, 1) := by decide +kernel
theorem dX3_pass_232 : decode cX3_pass 232 = .ok (.iload 5, 2) := by decide +kernel
theorem dX3_pass_234 : decode cX3_pass 234 = .ok (.aaload, 1) := by decide +kernel
theorem dX3_pass_235 : decode cX3_pass 235 = .ok (.iload 4, 2) := by decide +kernel
theorem dX3_pass_237 : decode cX3_pass 237 = .ok (.iconst 1, 1) := by decide +kernel
theorem dX3_pass_238 : decode cX3_pass 238 = .ok (.bastore, 1) := by decide +kernel
theorem dX3_pass_239 : decode cX3_pass 239 = .ok (.iinc 4 1, 3) := by decide +kernel
theorem dX3_pass_242 : decode cX3_pass 242 = .ok (.goto (-120), 3) := by decide +kernel
theorem dX3_pass_245 : decode cX3_pass 245 = .ok (.iinc 3 1, 3) := by decide +kernel
theorem dX3_pass_248 : decode cX3_pass 248 = .ok (.goto (-155), 3) := by decide +kernel
theorem dX3_pass_251 : decode cX3_pass 251 = .ok (.iinc 2 1, 3) := by decide +kernel
theorem dX3_pass_254 : decode cX3_pass 254 = .ok (.goto (-171), 3) := by decide +kernel
theorem dX3_pass_257 : decode cX3_pass 257 = .ok (.aload_n 0, 1) := by decide +kernel
theorem dX3_pass_258 : decode cX3_pass 258 = .ok (.aload_n 1, 1) := by decide +kernel
theorem dX3_pass_259 : decode cX3_pass 259 = .ok (.putfield 22, 3) := by decide +kernel
theorem dX3_pass_262 : decode cX3_pass 262 = .ok (.aload_n 0, 1) := by decide +kernel
theorem dX3_pass_263 : decode cX3_pass 263 = .ok (.dup, 1) := by decide +kernel
theorem dX3_pass_264 : decode cX3_pass 264 = .ok (.getfield 39, 3) := by decide +kernel
theorem dX3_pass_267 : decode cX3_pass 267 = .ok (.iconst 1, 1) := by decide +kernel
theorem dX3_pass_268 : decode cX3_pass 268 = .ok (.iadd, 1) := by decide +kernel
theorem dX3_pass_269 : decode cX3_pass 269 = .ok (.putfield 39, 3) := by decide +kernel
theorem dX3_pass_272 : decode cX3_pass 272 = .ok (.return_, 1) := by decide +kernel
set_option maxRecDepth 20000 in
theorem ggX3_behind_X3_pass : GoodIn wsX3_behind wsX3_pass := goodIn_r _ [5, 6, 7, 8, 9, 10, 11, 12, 13, 14, 15, 16, 17, 4, 18, 19, 20, 21, 22, 23, 24, 25, 26, 27, 28, 29] (by decide +kernel) (by decide +kernel)
set_option maxRecDepth 20000 in
theorem gX3_behind_X3_pass : GoodIn wsX3_behind (wsV RX3 53 RX3 yX3_pass wsX3_pass) := goodIn_app (goodIn_of _ (by decide +kernel)) ggX3_behind_X3_pass
theorem dX3_behind_0 : decode cX3_behind 0 = .ok (.iconst 0, 1) := by decide +kernel
theorem dX3_behind_1 : decode cX3_behind 1 = .ok (.istore_n 2, 1) := by decide +kernel
theorem dX3_behind_2 : decode cX3_behind 2 = .ok (.iload_n 2, 1) := by decide +kernel
theorem dX3_behind_3 : decode cX3_behind 3 = .ok (.iload_n 1, 1) := by decide +kernel
theorem dX3_behind_4 : decode cX3_behind 4 = .ok (.if_icmp .ge 13, 3) := by decide +kernel
theorem dX3_behind_7 : decode cX3_behind 7 = .ok (.aload_n 0, 1) := by decide +kernel
theorem dX3_behind_8 : decode cX3_behind 8 = .ok (.invokevirtual 53, 3) := by decide +kernel
theorem dX3_behind_11 : decode cX3_behind 11 = .ok (.iinc 2 1, 3) := by decide +kernel
theorem dX3_behind_14 : decode cX3_behind 14 = .ok (.goto (-12), 3) := by decide +kernel
theorem dX3_behind_17 : decode cX3_behind 17 = .ok (.aload_n 0, 1) := by decide +kernel
theorem dX3_behind_18 : decode cX3_behind 18 = .ok (.areturn, 1) := by decide +kernel
theorem dX3_valleys_0 : decode cX3_valleys 0 = .ok (.iconst 0, 1) := by decide +kernel
theorem dX3_valleys_1 : decode cX3_valleys 1 = .ok (.istore_n 2, 1) := by decide +kernel
theorem dX3_valleys_2 : decode cX3_valleys 2 = .ok (.aload_n 0, 1) := by decide +kernel
theorem dX3_valleys_3 : decode cX3_valleys 3 = .ok (.getfield 22, 3) := by decide +kernel
theorem dX3_valleys_6 : decode cX3_valleys 6 = .ok (.iload_n 1, 1) := by decide +kernel
theorem dX3_valleys_7 : decode cX3_valleys 7 = .ok (.aaload, 1) := by decide +kernel
theorem dX3_valleys_8 : decode cX3_valleys 8 = .ok (.astore_n 3, 1) := by decide +kernel
theorem dX3_valleys_9 : decode cX3_valleys 9 = .ok (.aload_n 3, 1) := by decide +kernel
theorem dX3_valleys_10 : decode cX3_valleys 10 = .ok (.arraylength, 1) := by decide +kernel
theorem dX3_valleys_11 : decode cX3_valleys 11 = .ok (.istore 4, 2) := by decide +kernel
theorem dX3_valleys_13 : decode cX3_valleys 13 = .ok (.iconst 0, 1) := by decide +kernel
theorem dX3_valleys_14 : decode cX3_valleys 14 = .ok (.istore 5, 2) := by decide +kernel
theorem dX3_valleys_16 : decode cX3_valleys 16 = .ok (.iload 5, 2) := by decide +kernel
theorem dX3_valleys_18 : decode cX3_valleys 18 = .ok (.iload 4, 2) := by decide +kernel
theorem dX3_valleys_20 : decode cX3_valleys 20 = .ok (.if_icmp .ge 28, 3) := by decide +kernel
theorem dX3_valleys_23 : decode cX3_valleys 23 = .ok (.aload_n 3, 1) := by decide +kernel
theorem dX3_valleys_24 : decode cX3_valleys 24 = .ok (.iload 5, 2) := by decide +kernel
theorem dX3_valleys_26 : decode cX3_valleys 26 = .ok (.baload, 1) := by decide +kernel
theorem dX3_valleys_27 : decode cX3_valleys 27 = .ok (.istore 6, 2) := by decide +kernel
theorem dX3_valleys_29 : decode cX3_valleys 29 = .ok (.iload_n 2, 1) := by decide +kernel
theorem dX3_valleys_30 : decode cX3_valleys 30 = .ok (.iload 6, 2) := by decide +kernel
theorem dX3_valleys_32 : decode cX3_valleys 32 = .ok (.ifCond .eq 7, 3) := by decide +kernel
theorem dX3_valleys_35 : decode cX3_valleys 35 = .ok (.iconst 1, 1) := by decide +kernel
theorem dX3_valleys_36 : decode cX3_valleys 36 = .ok (.goto 4, 3) := by decide +kernel
theorem dX3_valleys_39 : decode cX3_valleys 39 = .ok (.iconst 0, 1) := by decide +kernel
theorem dX3_valleys_40 : decode cX3_valleys 40 = .ok (.iadd, 1) := by decide +kernel
theorem dX3_valleys_41 : decode cX3_valleys 41 = .ok (.istore_n 2, 1) := by decide +kernel
theorem dX3_valleys_42 : decode cX3_valleys 42 = .ok (.iinc 5 1, 3) := by decide +kernel
theorem dX3_valleys_45 : decode cX3_valleys 45 = .ok (.goto (-29), 3) := by decide +kernel
theorem dX3_valleys_48 : decode cX3_valleys 48 = .ok (.iload_n 2, 1) := by decide +kernel
theorem dX3_valleys_49 : decode cX3_valleys 49 = .ok (.ireturn, 1) := by decide +kernel
set_option maxRecDepth 20000 in
theorem ggX3_tellings_X3_valleys : GoodIn wsX3_tellings wsX3_valleys := goodIn_r _ [6, 7, 8, 9, 10, 11, 12, 13, 14, 15, 16] (by decide +kernel) (by decide +kernel)
set_option maxRecDepth 20000 in
theorem gX3_tellings_X3_valleys : GoodIn wsX3_tellings (wsV RX3 56 RX3 yX3_valleys wsX3_valleys) := goodIn_app (goodIn_of _ (by decide +kernel)) ggX3_tellings_X3_valleys
theorem dX3_tellings_0 : decode cX3_tellings 0 = .ok (.iconst 0, 1) := by decide +kernel
theorem dX3_tellings_1 : decode cX3_tellings 1 = .ok (.istore_n 1, 1) := by decide +kernel
theorem dX3_tellings_2 : decode cX3_tellings 2 = .ok (.iconst 0, 1) := by decide +kernel
theorem dX3_tellings_3 : decode cX3_tellings 3 = .ok (.istore_n 2, 1) := by decide +kernel
theorem dX3_tellings_4 : decode cX3_tellings 4 = .ok (.iload_n 2, 1) := by decide +kernel
theorem dX3_tellings_5 : decode cX3_tellings 5 = .ok (.aload_n 0, 1) := by decide +kernel
theorem dX3_tellings_6 : decode cX3_tellings 6 = .ok (.getfield 35, 3) := by decide +kernel
theorem dX3_tellings_9 : decode cX3_tellings 9 = .ok (.if_icmp .ge 17, 3) := by decide +kernel
theorem dX3_tellings_12 : decode cX3_tellings 12 = .ok (.iload_n 1, 1) := by decide +kernel
theorem dX3_tellings_13 : decode cX3_tellings 13 = .ok (.aload_n 0, 1) := by decide +kernel
theorem dX3_tellings_14 : decode cX3_tellings 14 = .ok (.iload_n 2, 1) := by decide +kernel
theorem dX3_tellings_15 : decode cX3_tellings 15 = .ok (.invokevirtual 56, 3) := by decide +kernel
theorem dX3_tellings_18 : decode cX3_tellings 18 = .ok (.iadd, 1) := by decide +kernel
theorem dX3_tellings_19 : decode cX3_tellings 19 = .ok (.istore_n 1, 1) := by decide +kernel
theorem dX3_tellings_20 : decode cX3_tellings 20 = .ok (.iinc 2 1, 3) := by decide +kernel
theorem dX3_tellings_23 : decode cX3_tellings 23 = .ok (.goto (-19), 3) := by decide +kernel
theorem dX3_tellings_26 : decode cX3_tellings 26 = .ok (.iload_n 1, 1) := by decide +kernel
theorem dX3_tellings_27 : decode cX3_tellings 27 = .ok (.ireturn, 1) := by decide +kernel
theorem dX3_beastsOf_0 : decode cX3_beastsOf 0 = .ok (.iconst 0, 1) := by decide +kernel
theorem dX3_beastsOf_1 : decode cX3_beastsOf 1 = .ok (.istore_n 2, 1) := by decide +kernel
theorem dX3_beastsOf_2 : decode cX3_beastsOf 2 = .ok (.aload_n 0, 1) := by decide +kernel
theorem dX3_beastsOf_3 : decode cX3_beastsOf 3 = .ok (.getfield 17, 3) := by decide +kernel
theorem dX3_beastsOf_6 : decode cX3_beastsOf 6 = .ok (.iload_n 1, 1) := by decide +kernel
theorem dX3_beastsOf_7 : decode cX3_beastsOf 7 = .ok (.aaload, 1) := by decide +kernel
theorem dX3_beastsOf_8 : decode cX3_beastsOf 8 = .ok (.astore_n 3, 1) := by decide +kernel
theorem dX3_beastsOf_9 : decode cX3_beastsOf 9 = .ok (.aload_n 3, 1) := by decide +kernel
theorem dX3_beastsOf_10 : decode cX3_beastsOf 10 = .ok (.arraylength, 1) := by decide +kernel
theorem dX3_beastsOf_11 : decode cX3_beastsOf 11 = .ok (.istore 4, 2) := by decide +kernel
theorem dX3_beastsOf_13 : decode cX3_beastsOf 13 = .ok (.iconst 0, 1) := by decide +kernel
theorem dX3_beastsOf_14 : decode cX3_beastsOf 14 = .ok (.istore 5, 2) := by decide +kernel
theorem dX3_beastsOf_16 : decode cX3_beastsOf 16 = .ok (.iload 5, 2) := by decide +kernel
theorem dX3_beastsOf_18 : decode cX3_beastsOf 18 = .ok (.iload 4, 2) := by decide +kernel
theorem dX3_beastsOf_20 : decode cX3_beastsOf 20 = .ok (.if_icmp .ge 28, 3) := by decide +kernel
theorem dX3_beastsOf_23 : decode cX3_beastsOf 23 = .ok (.aload_n 3, 1) := by decide +kernel
theorem dX3_beastsOf_24 : decode cX3_beastsOf 24 = .ok (.iload 5, 2) := by decide +kernel
theorem dX3_beastsOf_26 : decode cX3_beastsOf 26 = .ok (.baload, 1) := by decide +kernel
theorem dX3_beastsOf_27 : decode cX3_beastsOf 27 = .ok (.istore 6, 2) := by decide +kernel
theorem dX3_beastsOf_29 : decode cX3_beastsOf 29 = .ok (.iload_n 2, 1) := by decide +kernel
theorem dX3_beastsOf_30 : decode cX3_beastsOf 30 = .ok (.iload 6, 2) := by decide +kernel
theorem dX3_beastsOf_32 : decode cX3_beastsOf 32 = .ok (.ifCond .eq 7, 3) := by decide +kernel
theorem dX3_beastsOf_35 : decode cX3_beastsOf 35 = .ok (.iconst 1, 1) := by decide +kernel
theorem dX3_beastsOf_36 : decode cX3_beastsOf 36 = .ok (.goto 4, 3) := by decide +kernel
theorem dX3_beastsOf_39 : decode cX3_beastsOf 39 = .ok (.iconst 0, 1) := by decide +kernel
theorem dX3_beastsOf_40 : decode cX3_beastsOf 40 = .ok (.iadd, 1) := by decide +kernel
theorem dX3_beastsOf_41 : decode cX3_beastsOf 41 = .ok (.istore_n 2, 1) := by decide +kernel
theorem dX3_beastsOf_42 : decode cX3_beastsOf 42 = .ok (.iinc 5 1, 3) := by decide +kernel
theorem dX3_beastsOf_45 : decode cX3_beastsOf 45 = .ok (.goto (-29), 3) := by decide +kernel
theorem dX3_beastsOf_48 : decode cX3_beastsOf 48 = .ok (.iload_n 2, 1) := by decide +kernel
theorem dX3_beastsOf_49 : decode cX3_beastsOf 49 = .ok (.ireturn, 1) := by decide +kernel
theorem dX3_hasVariant_0 : decode cX3_hasVariant 0 = .ok (.iconst 0, 1) := by decide +kernel
theorem dX3_hasVariant_1 : decode cX3_hasVariant 1 = .ok (.istore_n 2, 1) := by decide +kernel
theorem dX3_hasVariant_2 : decode cX3_hasVariant 2 = .ok (.iload_n 2, 1) := by decide +kernel
theorem dX3_hasVariant_3 : decode cX3_hasVariant 3 = .ok (.aload_n 0, 1) := by decide +kernel
theorem dX3_hasVariant_4 : decode cX3_hasVariant 4 = .ok (.getfield 35, 3) := by decide +kernel
theorem dX3_hasVariant_7 : decode cX3_hasVariant 7 = .ok (.if_icmp .ge 23, 3) := by decide +kernel
theorem dX3_hasVariant_10 : decode cX3_hasVariant 10 = .ok (.aload_n 0, 1) := by decide +kernel
theorem dX3_hasVariant_11 : decode cX3_hasVariant 11 = .ok (.getfield 9, 3) := by decide +kernel
theorem dX3_hasVariant_14 : decode cX3_hasVariant 14 = .ok (.iload_n 2, 1) := by decide +kernel
theorem dX3_hasVariant_15 : decode cX3_hasVariant 15 = .ok (.aaload, 1) := by decide +kernel
theorem dX3_hasVariant_16 : decode cX3_hasVariant 16 = .ok (.iconst 2, 1) := by decide +kernel
theorem dX3_hasVariant_17 : decode cX3_hasVariant 17 = .ok (.iaload, 1) := by decide +kernel
theorem dX3_hasVariant_18 : decode cX3_hasVariant 18 = .ok (.iload_n 1, 1) := by decide +kernel
theorem dX3_hasVariant_19 : decode cX3_hasVariant 19 = .ok (.if_icmp .ne 5, 3) := by decide +kernel
theorem dX3_hasVariant_22 : decode cX3_hasVariant 22 = .ok (.iconst 1, 1) := by decide +kernel
theorem dX3_hasVariant_23 : decode cX3_hasVariant 23 = .ok (.ireturn, 1) := by decide +kernel
theorem dX3_hasVariant_24 : decode cX3_hasVariant 24 = .ok (.iinc 2 1, 3) := by decide +kernel
theorem dX3_hasVariant_27 : decode cX3_hasVariant 27 = .ok (.goto (-25), 3) := by decide +kernel
theorem dX3_hasVariant_30 : decode cX3_hasVariant 30 = .ok (.iconst 0, 1) := by decide +kernel
theorem dX3_hasVariant_31 : decode cX3_hasVariant 31 = .ok (.ireturn, 1) := by decide +kernel
set_option maxRecDepth 20000 in
theorem ggX3_loved_X3_valleys : GoodIn wsX3_loved wsX3_valleys := goodIn_r _ [8, 9, 10, 11, 12, 13, 14, 15, 16, 17, 18] (by decide +kernel) (by decide +kernel)
set_option maxRecDepth 20000 in
theorem gX3_loved_X3_valleys : GoodIn wsX3_loved (wsV RX3 56 RX3 yX3_valleys wsX3_valleys) := goodIn_app (goodIn_of _ (by decide +kernel)) ggX3_loved_X3_valleys
theorem dX3_loved_0 : decode cX3_loved 0 = .ok (.iconst 0, 1) := by decide +kernel
theorem dX3_loved_1 : decode cX3_loved 1 = .ok (.istore_n 2, 1) := by decide +kernel
theorem dX3_loved_2 : decode cX3_loved 2 = .ok (.iconst 0, 1) := by decide +kernel
theorem dX3_loved_3 : decode cX3_loved 3 = .ok (.istore_n 3, 1) := by decide +kernel
theorem dX3_loved_4 : decode cX3_loved 4 = .ok (.iload_n 3, 1) := by decide +kernel
theorem dX3_loved_5 : decode cX3_loved 5 = .ok (.aload_n 0, 1) := by decide +kernel
theorem dX3_loved_6 : decode cX3_loved 6 = .ok (.getfield 35, 3) := by decide +kernel
theorem dX3_loved_9 : decode cX3_loved 9 = .ok (.if_icmp .ge 65, 3) := by decide +kernel
theorem dX3_loved_12 : decode cX3_loved 12 = .ok (.iload_n 2, 1) := by decide +kernel
theorem dX3_loved_13 : decode cX3_loved 13 = .ok (.iload_n 1, 1) := by decide +kernel
theorem dX3_loved_14 : decode cX3_loved 14 = .ok (.bipush 10, 2) := by decide +kernel
theorem dX3_loved_16 : decode cX3_loved 16 = .ok (.if_icmp .ge 27, 3) := by decide +kernel
theorem dX3_loved_19 : decode cX3_loved 19 = .ok (.aload_n 0, 1) := by decide +kernel
theorem dX3_loved_20 : decode cX3_loved 20 = .ok (.getfield 9, 3) := by decide +kernel
theorem dX3_loved_23 : decode cX3_loved 23 = .ok (.iload_n 3, 1) := by decide +kernel
theorem dX3_loved_24 : decode cX3_loved 24 = .ok (.aaload, 1) := by decide +kernel
theorem dX3_loved_25 : decode cX3_loved 25 = .ok (.iconst 0, 1) := by decide +kernel
theorem dX3_loved_26 : decode cX3_loved 26 = .ok (.iaload, 1) := by decide +kernel
theorem dX3_loved_27 : decode cX3_loved 27 = .ok (.iload_n 1, 1) := by decide +kernel
theorem dX3_loved_28 : decode cX3_loved 28 = .ok (.if_icmp .ne 11, 3) := by decide +kernel
theorem dX3_loved_31 : decode cX3_loved 31 = .ok (.aload_n 0, 1) := by decide +kernel
theorem dX3_loved_32 : decode cX3_loved 32 = .ok (.iload_n 3, 1) := by decide +kernel
theorem dX3_loved_33 : decode cX3_loved 33 = .ok (.invokevirtual 56, 3) := by decide +kernel
theorem dX3_loved_36 : decode cX3_loved 36 = .ok (.goto 30, 3) := by decide +kernel
theorem dX3_loved_39 : decode cX3_loved 39 = .ok (.iconst 0, 1) := by decide +kernel
theorem dX3_loved_40 : decode cX3_loved 40 = .ok (.goto 26, 3) := by decide +kernel
theorem dX3_loved_43 : decode cX3_loved 43 = .ok (.aload_n 0, 1) := by decide +kernel
theorem dX3_loved_44 : decode cX3_loved 44 = .ok (.getfield 17, 3) := by decide +kernel
theorem dX3_loved_47 : decode cX3_loved 47 = .ok (.iload_n 3, 1) := by decide +kernel
theorem dX3_loved_48 : decode cX3_loved 48 = .ok (.aaload, 1) := by decide +kernel
theorem dX3_loved_49 : decode cX3_loved 49 = .ok (.iload_n 1, 1) := by decide +kernel
theorem dX3_loved_50 : decode cX3_loved 50 = .ok (.bipush 10, 2) := by decide +kernel
theorem dX3_loved_52 : decode cX3_loved 52 = .ok (.isub, 1) := by decide +kernel
theorem dX3_loved_53 : decode cX3_loved 53 = .ok (.baload, 1) := by decide +kernel
theorem dX3_loved_54 : decode cX3_loved 54 = .ok (.ifCond .eq 11, 3) := by decide +kernel
theorem dX3_loved_57 : decode cX3_loved 57 = .ok (.aload_n 0, 1) := by decide +kernel
theorem dX3_loved_58 : decode cX3_loved 58 = .ok (.iload_n 3, 1) := by decide +kernel
theorem dX3_loved_59 : decode cX3_loved 59 = .ok (.invokevirtual 56, 3) := by decide +kernel
theorem dX3_loved_62 : decode cX3_loved 62 = .ok (.goto 4, 3) := by decide +kernel
theorem dX3_loved_65 : decode cX3_loved 65 = .ok (.iconst 0, 1) := by decide +kernel
theorem dX3_loved_66 : decode cX3_loved 66 = .ok (.iadd, 1) := by decide +kernel
theorem dX3_loved_67 : decode cX3_loved 67 = .ok (.istore_n 2, 1) := by decide +kernel
theorem dX3_loved_68 : decode cX3_loved 68 = .ok (.iinc 3 1, 3) := by decide +kernel
theorem dX3_loved_71 : decode cX3_loved 71 = .ok (.goto (-67), 3) := by decide +kernel
theorem dX3_loved_74 : decode cX3_loved 74 = .ok (.iload_n 2, 1) := by decide +kernel
theorem dX3_loved_75 : decode cX3_loved 75 = .ok (.ireturn, 1) := by decide +kernel
set_option maxRecDepth 20000 in
theorem ggX3_favourite_X3_loved : GoodIn wsX3_favourite wsX3_loved := goodIn_r _ [5, 6, 7, 8, 9, 10, 11, 4, 12, 13, 14, 15, 16, 17, 18, 19, 20, 21, 22] (by decide +kernel) (by decide +kernel)
set_option maxRecDepth 20000 in
theorem gX3_favourite_X3_loved : GoodIn wsX3_favourite (wsV RX3 60 RX3 yX3_loved wsX3_loved) := goodIn_app (goodIn_of _ (by decide +kernel)) ggX3_favourite_X3_loved
theorem dX3_favourite_0 : decode cX3_favourite 0 = .ok (.iconst (-1), 1) := by decide +kernel
theorem dX3_favourite_1 : decode cX3_favourite 1 = .ok (.istore_n 3, 1) := by decide +kernel
theorem dX3_favourite_2 : decode cX3_favourite 2 = .ok (.iload_n 2, 1) := by decide +kernel
theorem dX3_favourite_3 : decode cX3_favourite 3 = .ok (.iconst 1, 1) := by decide +kernel
theorem dX3_favourite_4 : decode cX3_favourite 4 = .ok (.isub, 1) := by decide +kernel
theorem dX3_favourite_5 : decode cX3_favourite 5 = .ok (.istore 4, 2) := by decide +kernel
theorem dX3_favourite_7 : decode cX3_favourite 7 = .ok (.iload 4, 2) := by decide +kernel
theorem dX3_favourite_9 : decode cX3_favourite 9 = .ok (.iload_n 1, 1) := by decide +kernel
theorem dX3_favourite_10 : decode cX3_favourite 10 = .ok (.if_icmp .lt 39, 3) := by decide +kernel
theorem dX3_favourite_13 : decode cX3_favourite 13 = .ok (.aload_n 0, 1) := by decide +kernel
theorem dX3_favourite_14 : decode cX3_favourite 14 = .ok (.iload 4, 2) := by decide +kernel
theorem dX3_favourite_16 : decode cX3_favourite 16 = .ok (.invokevirtual 60, 3) := by decide +kernel
theorem dX3_favourite_19 : decode cX3_favourite 19 = .ok (.ifCond .le 24, 3) := by decide +kernel
theorem dX3_favourite_22 : decode cX3_favourite 22 = .ok (.iload_n 3, 1) := by decide +kernel
theorem dX3_favourite_23 : decode cX3_favourite 23 = .ok (.ifCond .lt 17, 3) := by decide +kernel
theorem dX3_favourite_26 : decode cX3_favourite 26 = .ok (.aload_n 0, 1) := by decide +kernel
theorem dX3_favourite_27 : decode cX3_favourite 27 = .ok (.iload 4, 2) := by decide +kernel
theorem dX3_favourite_29 : decode cX3_favourite 29 = .ok (.invokevirtual 60, 3) := by decide +kernel
theorem dX3_favourite_32 : decode cX3_favourite 32 = .ok (.aload_n 0, 1) := by decide +kernel
theorem dX3_favourite_33 : decode cX3_favourite 33 = .ok (.iload_n 3, 1) := by decide +kernel
theorem dX3_favourite_34 : decode cX3_favourite 34 = .ok (.invokevirtual 60, 3) := by decide +kernel
theorem dX3_favourite_37 : decode cX3_favourite 37 = .ok (.if_icmp .lt 6, 3) := by decide +kernel
theorem dX3_favourite_40 : decode cX3_favourite 40 = .ok (.iload 4, 2) := by decide +kernel
theorem dX3_favourite_42 : decode cX3_favourite 42 = .ok (.istore_n 3, 1) := by decide +kernel
theorem dX3_favourite_43 : decode cX3_favourite 43 = .ok (.iinc 4 (-1), 3) := by decide +kernel
theorem dX3_favourite_46 : decode cX3_favourite 46 = .ok (.goto (-39), 3) := by decide +kernel
theorem dX3_favourite_49 : decode cX3_favourite 49 = .ok (.iload_n 3, 1) := by decide +kernel
theorem dX3_favourite_50 : decode cX3_favourite 50 = .ok (.ifCond .ge 7, 3) := by decide +kernel
theorem dX3_favourite_53 : decode cX3_favourite 53 = .ok (.iconst (-1), 1) := by decide +kernel
theorem dX3_favourite_54 : decode cX3_favourite 54 = .ok (.goto 6, 3) := by decide +kernel
theorem dX3_favourite_57 : decode cX3_favourite 57 = .ok (.iload_n 3, 1) := by decide +kernel
theorem dX3_favourite_58 : decode cX3_favourite 58 = .ok (.iload_n 1, 1) := by decide +kernel
theorem dX3_favourite_59 : decode cX3_favourite 59 = .ok (.isub, 1) := by decide +kernel
theorem dX3_favourite_60 : decode cX3_favourite 60 = .ok (.ireturn, 1) := by decide +kernel
end
section
set_option maxRecDepth 20000 in
theorem ggX3_isSame_X2_fables : GoodIn wsX3_isSame wsX2_fables := goodIn_r _ [15, 16, 17, 212, 213, 214, 215, 216, 217, 218, 219, 220, 221, 222] (by decide +kernel) (by decide +kernel)
set_option maxRecDepth 20000 in
theorem gX3_isSame_X2_fables : GoodIn wsX3_isSame (wsV RX3 63 RX2 yX2_fables wsX2_fables) := goodIn_app (goodIn_of _ (by decide +kernel)) ggX3_isSame_X2_fables
set_option maxRecDepth 20000 in
theorem ggX3_isSame_X2_season : GoodIn wsX3_isSame wsX2_season := goodIn_r _ [21, 22, 212, 213, 214, 215] (by decide +kernel) (by decide +kernel)
set_option maxRecDepth 20000 in
theorem gX3_isSame_X2_season : GoodIn wsX3_isSame (wsV RX3 68 RX2 yX2_season wsX2_season) := goodIn_app (goodIn_of _ (by decide +kernel)) ggX3_isSame_X2_season
set_option maxRecDepth 20000 in
theorem ggX3_isSame_X2_tellings : GoodIn wsX3_isSame wsX2_tellings := goodIn_r _ [26, 27, 16, 28, 29, 30, 31, 32, 33, 34, 35, 36, 37, 38, 39, 40, 14, 41, 42, 43, 44, 45, 46, 47, 48, 212, 213, 214, 215, 216, 217, 218, 219, 220, 221, 222, 223, 224, 225, 226, 227, 228, 229] (by decide +kernel) (by decide +kernel)
set_option maxRecDepth 20000 in
theorem gX3_isSame_X2_tellings : GoodIn wsX3_isSame (wsV RX3 70 RX2 yX2_tellings wsX2_tellings) := goodIn_app (goodIn_of _ (by decide +kernel)) ggX3_isSame_X2_tellings
set_option maxRecDepth 20000 in
theorem ggX3_isSame_X3_tellings : GoodIn wsX3_isSame wsX3_tellings := goodIn_r _ [53, 1, 54, 55, 56, 52, 57, 7, 203, 204, 205, 206, 207, 208, 209, 210, 211] (by decide +kernel) (by decide +kernel)
set_option maxRecDepth 20000 in
theorem gX3_isSame_X3_tellings : GoodIn wsX3_isSame (wsV RX3 73 RX3 yX3_tellings wsX3_tellings) := goodIn_app (goodIn_of _ (by decide +kernel)) ggX3_isSame_X3_tellings
set_option maxRecDepth 20000 in
theorem ggX3_isSame_X2_silenced : GoodIn wsX3_isSame wsX2_silenced := goodIn_r _ [61, 27, 62, 212, 213, 214, 215, 223, 224, 225, 226, 227, 228, 229] (by decide +kernel) (by decide +kernel)
set_option maxRecDepth 20000 in
theorem gX3_isSame_X2_silenced : GoodIn wsX3_isSame (wsV RX3 74 RX2 yX2_silenced wsX2_silenced) := goodIn_app (goodIn_of _ (by decide +kernel)) ggX3_isSame_X2_silenced
set_option maxRecDepth 20000 in
theorem ggX3_isSame_X2_favouriteMoral : GoodIn wsX3_isSame wsX2_favouriteMoral := goodIn_r _ [66, 27, 16, 67, 68, 69, 31, 70, 33, 71, 34, 35, 36, 37, 38, 39, 40, 14, 41, 42, 43, 44, 45, 46, 47, 48, 212, 213, 214, 215, 216, 217, 218, 219, 220, 221, 222, 223, 224, 225, 226, 227, 228, 229] (by decide +kernel) (by decide +kernel)
set_option maxRecDepth 20000 in
theorem gX3_isSame_X2_favouriteMoral : GoodIn wsX3_isSame (wsV RX3 76 RX2 yX2_favouriteMoral wsX2_favouriteMoral) := goodIn_app (goodIn_of _ (by decide +kernel)) ggX3_isSame_X2_favouriteMoral
set_option maxRecDepth 20000 in
theorem ggX3_isSame_X3_favourite : GoodIn wsX3_isSame wsX3_favourite := goodIn_r _ [75, 76, 77, 78, 52, 79, 1, 5, 6, 54, 55, 56, 57, 7, 203, 204, 205, 206, 207, 208, 209, 210, 211] (by decide +kernel) (by decide +kernel)
set_option maxRecDepth 20000 in
theorem gX3_isSame_X3_favourite : GoodIn wsX3_isSame (wsV RX3 79 RX3 yX3_favourite wsX3_favourite) := goodIn_app (goodIn_of _ (by decide +kernel)) ggX3_isSame_X3_favourite
set_option maxRecDepth 20000 in
theorem ggX3_isSame_X2_favouriteBeast : GoodIn wsX3_isSame wsX2_favouriteBeast := goodIn_r _ [83, 27, 16, 84, 85, 86, 31, 87, 33, 88, 89, 14, 90, 34, 35, 36, 37, 38, 39, 40, 41, 42, 43, 44, 45, 46, 47, 48, 212, 213, 214, 215, 216, 217, 218, 219, 220, 221, 222, 223, 224, 225, 226, 227, 228, 229] (by decide +kernel) (by decide +kernel)
set_option maxRecDepth 20000 in
theorem gX3_isSame_X2_favouriteBeast : GoodIn wsX3_isSame (wsV RX3 83 RX2 yX2_favouriteBeast wsX2_favouriteBeast) := goodIn_app (goodIn_of _ (by decide +kernel)) ggX3_isSame_X2_favouriteBeast
set_option maxRecDepth 20000 in
theorem ggX3_isSame_X2_moralOf : GoodIn wsX3_isSame wsX2_moralOf := goodIn_ca (goodIn_r _ [94, 16, 95, 96, 97, 98, 14, 99, 100, 101, 17, 212, 213, 214, 215, 216, 217, 218, 219, 220, 221, 222] (by decide +kernel) (by decide +kernel)) (goodIn_sub (fun _ h => List.mem_cons_of_mem _ (List.mem_append_right _ h)) (by decide +kernel))
set_option maxRecDepth 20000 in
theorem gX3_isSame_X2_moralOf : GoodIn wsX3_isSame (wsV RX3 86 RX2 yX2_moralOf wsX2_moralOf) := goodIn_app (goodIn_of _ (by decide +kernel)) ggX3_isSame_X2_moralOf
set_option maxRecDepth 20000 in
theorem ggX3_isSame_X2_homeOf : GoodIn wsX3_isSame wsX2_homeOf := goodIn_ca (goodIn_r _ [105, 16, 106, 96, 97, 98, 14, 99, 100, 101, 17, 212, 213, 214, 215, 216, 217, 218, 219, 220, 221, 222] (by decide +kernel) (by decide +kernel)) (goodIn_sub (fun _ h => List.mem_cons_of_mem _ (List.mem_append_right _ h)) (by decide +kernel))
set_option maxRecDepth 20000 in
theorem gX3_isSame_X2_homeOf : GoodIn wsX3_isSame (wsV RX3 89 RX2 yX2_homeOf wsX2_homeOf) := goodIn_app (goodIn_of _ (by decide +kernel)) ggX3_isSame_X2_homeOf
set_option maxRecDepth 20000 in
theorem ggX3_isSame_X2_parentOf : GoodIn wsX3_isSame wsX2_parentOf := goodIn_ca (goodIn_r _ [110, 16, 111, 96, 97, 98, 14, 99, 100, 101, 17, 212, 213, 214, 215, 216, 217, 218, 219, 220, 221, 222] (by decide +kernel) (by decide +kernel)) (goodIn_sub (fun _ h => List.mem_cons_of_mem _ (List.mem_append_right _ h)) (by decide +kernel))
set_option maxRecDepth 20000 in
theorem gX3_isSame_X2_parentOf : GoodIn wsX3_isSame (wsV RX3 92 RX2 yX2_parentOf wsX2_parentOf) := goodIn_app (goodIn_of _ (by decide +kernel)) ggX3_isSame_X2_parentOf
set_option maxRecDepth 20000 in
theorem ggX3_isSame_X2_beastsOf : GoodIn wsX3_isSame wsX2_beastsOf := goodIn_ca (goodIn_r _ [115, 16, 116, 96, 97, 98, 14, 99, 100, 101, 17, 117, 40, 41, 42, 43, 44, 45, 46, 47, 48, 212, 213, 214, 215, 216, 217, 218, 219, 220, 221, 222] (by decide +kernel) (by decide +kernel)) (goodIn_sub (fun _ h => List.mem_cons_of_mem _ (List.mem_append_right _ h)) (by decide +kernel))
set_option maxRecDepth 20000 in
theorem gX3_isSame_X2_beastsOf : GoodIn wsX3_isSame (wsV RX3 95 RX2 yX2_beastsOf wsX2_beastsOf) := goodIn_app (goodIn_of _ (by decide +kernel)) ggX3_isSame_X2_beastsOf
set_option maxRecDepth 20000 in
theorem ggX3_isSame_X3_beastsOf : GoodIn wsX3_isSame wsX3_beastsOf := goodIn_r _ [121, 6, 203, 204, 205, 206, 207, 208, 209, 210, 211] (by decide +kernel) (by decide +kernel)
set_option maxRecDepth 20000 in
theorem gX3_isSame_X3_beastsOf : GoodIn wsX3_isSame (wsV RX3 98 RX3 yX3_beastsOf wsX3_beastsOf) := goodIn_app (goodIn_of _ (by decide +kernel)) ggX3_isSame_X3_beastsOf
set_option maxRecDepth 20000 in
theorem ggX3_isSame_X2_valleysOf : GoodIn wsX3_isSame wsX2_valleysOf := goodIn_ca (goodIn_r _ [125, 27, 96, 97, 98, 14, 99, 100, 101, 16, 17, 34, 35, 36, 37, 38, 39, 40, 41, 42, 43, 44, 45, 46, 47, 48, 212, 213, 214, 215, 216, 217, 218, 219, 220, 221, 222, 223, 224, 225, 226, 227, 228, 229] (by decide +kernel) (by decide +kernel)) (goodIn_sub (fun _ h => List.mem_cons_of_mem _ (List.mem_append_right _ h)) (by decide +kernel))
set_option maxRecDepth 20000 in
theorem gX3_isSame_X2_valleysOf : GoodIn wsX3_isSame (wsV RX3 99 RX2 yX2_valleysOf wsX2_valleysOf) := goodIn_app (goodIn_of _ (by decide +kernel)) ggX3_isSame_X2_valleysOf
set_option maxRecDepth 20000 in
theorem ggX3_isSame_X3_valleys : GoodIn wsX3_isSame wsX3_valleys := goodIn_r _ [57, 7, 203, 204, 205, 206, 207, 208, 209, 210, 211] (by decide +kernel) (by decide +kernel)
set_option maxRecDepth 20000 in
theorem gX3_isSame_X3_valleys : GoodIn wsX3_isSame (wsV RX3 56 RX3 yX3_valleys wsX3_valleys) := goodIn_app (goodIn_of _ (by decide +kernel)) ggX3_isSame_X3_valleys
set_option maxRecDepth 20000 in
theorem ggX3_isSame_X2_variantsOf : GoodIn wsX3_isSame wsX2_variantsOf := goodIn_ca (goodIn_r _ [129, 16, 130, 96, 97, 98, 14, 99, 100, 101, 17, 117, 40, 41, 42, 43, 44, 45, 46, 47, 48, 212, 213, 214, 215, 216, 217, 218, 219, 220, 221, 222] (by decide +kernel) (by decide +kernel)) (goodIn_sub (fun _ h => List.mem_cons_of_mem _ (List.mem_append_right _ h)) (by decide +kernel))
set_option maxRecDepth 20000 in
theorem gX3_isSame_X2_variantsOf : GoodIn wsX3_isSame (wsV RX3 102 RX2 yX2_variantsOf wsX2_variantsOf) := goodIn_app (goodIn_of _ (by decide +kernel)) ggX3_isSame_X2_variantsOf
set_option maxRecDepth 20000 in
theorem ggX3_isSame_X2_hasBeast : GoodIn wsX3_isSame wsX2_hasBeast := goodIn_ca (goodIn_r _ [134, 16, 116, 96, 97, 98, 14, 99, 100, 101, 17, 135, 136, 137, 138, 89, 90, 212, 213, 214, 215, 216, 217, 218, 219, 220, 221, 222] (by decide +kernel) (by decide +kernel)) (goodIn_sub (fun _ h => List.mem_cons_of_mem _ (List.mem_append_right _ h)) (by decide +kernel))
set_option maxRecDepth 20000 in
theorem gX3_isSame_X2_hasBeast : GoodIn wsX3_isSame (wsV RX3 105 RX2 yX2_hasBeast wsX2_hasBeast) := goodIn_app (goodIn_of _ (by decide +kernel)) ggX3_isSame_X2_hasBeast
set_option maxRecDepth 20000 in
theorem ggX3_isSame_X2_isTold : GoodIn wsX3_isSame wsX2_isTold := goodIn_ca (goodIn_r _ [142, 27, 143, 96, 97, 98, 14, 99, 100, 101, 16, 17, 144, 145, 146, 138, 89, 90, 212, 213, 214, 215, 223, 224, 225, 226, 227, 228, 229, 216, 217, 218, 219, 220, 221, 222] (by decide +kernel) (by decide +kernel)) (goodIn_sub (fun _ h => List.mem_cons_of_mem _ (List.mem_append_right _ h)) (by decide +kernel))
set_option maxRecDepth 20000 in
theorem gX3_isSame_X2_isTold : GoodIn wsX3_isSame (wsV RX3 108 RX2 yX2_isTold wsX2_isTold) := goodIn_app (goodIn_of _ (by decide +kernel)) ggX3_isSame_X2_isTold
set_option maxRecDepth 20000 in
theorem ggX3_isSame_X2_isBanned : GoodIn wsX3_isSame wsX2_isBanned := goodIn_ca (goodIn_r _ [150, 27, 16, 96, 97, 98, 14, 99, 100, 101, 17, 144, 145, 146, 151, 152, 153, 37, 154, 155, 156, 157, 158, 89, 90, 212, 213, 214, 215, 216, 217, 218, 219, 220, 221, 222, 223, 224, 225, 226, 227, 228, 229] (by decide +kernel) (by decide +kernel)) (goodIn_sub (fun _ h => List.mem_cons_of_mem _ (List.mem_append_right _ h)) (by decide +kernel))
set_option maxRecDepth 20000 in
theorem gX3_isSame_X2_isBanned : GoodIn wsX3_isSame (wsV RX3 111 RX2 yX2_isBanned wsX2_isBanned) := goodIn_app (goodIn_of _ (by decide +kernel)) ggX3_isSame_X2_isBanned
set_option maxRecDepth 20000 in
theorem ggX3_isSame_X3_isBanned : GoodIn wsX3_isSame wsX3_isBanned := goodIn_r _ [162, 8, 5, 6, 9, 203, 204, 205, 206, 207, 208, 209, 210, 211] (by decide +kernel) (by decide +kernel)
set_option maxRecDepth 20000 in
theorem gX3_isSame_X3_isBanned : GoodIn wsX3_isSame (wsV RX3 49 RX3 yX3_isBanned wsX3_isBanned) := goodIn_app (goodIn_of _ (by decide +kernel)) ggX3_isSame_X3_isBanned
set_option maxRecDepth 20000 in
theorem ggX3_isSame_X2_fablesWithMoral : GoodIn wsX3_isSame wsX2_fablesWithMoral := goodIn_ca (goodIn_r _ [166, 16, 167, 168, 14, 169, 100, 101, 67, 68, 69, 31, 70, 33, 71, 117, 40, 41, 42, 43, 44, 45, 46, 47, 48, 212, 213, 214, 215, 216, 217, 218, 219, 220, 221, 222] (by decide +kernel) (by decide +kernel)) (goodIn_sub (fun _ h => List.mem_cons_of_mem _ (List.mem_append_right _ h)) (by decide +kernel))
set_option maxRecDepth 20000 in
theorem gX3_isSame_X2_fablesWithMoral : GoodIn wsX3_isSame (wsV RX3 112 RX2 yX2_fablesWithMoral wsX2_fablesWithMoral) := goodIn_app (goodIn_of _ (by decide +kernel)) ggX3_isSame_X2_fablesWithMoral
set_option maxRecDepth 20000 in
theorem ggX3_isSame_X2_fablesWithBeast : GoodIn wsX3_isSame wsX2_fablesWithBeast := goodIn_ca (goodIn_r _ [173, 16, 135, 136, 14, 137, 100, 101, 84, 85, 86, 31, 87, 33, 88, 89, 90, 117, 40, 41, 42, 43, 44, 45, 46, 47, 48, 212, 213, 214, 215, 216, 217, 218, 219, 220, 221, 222] (by decide +kernel) (by decide +kernel)) (goodIn_sub (fun _ h => List.mem_cons_of_mem _ (List.mem_append_right _ h)) (by decide +kernel))
set_option maxRecDepth 20000 in
theorem gX3_isSame_X2_fablesWithBeast : GoodIn wsX3_isSame (wsV RX3 115 RX2 yX2_fablesWithBeast wsX2_fablesWithBeast) := goodIn_app (goodIn_of _ (by decide +kernel)) ggX3_isSame_X2_fablesWithBeast
set_option maxRecDepth 20000 in
theorem ggX3_isSame_X2_toldIn : GoodIn wsX3_isSame wsX2_toldIn := goodIn_ca (goodIn_r _ [177, 27, 143, 144, 145, 14, 146, 100, 101, 117, 40, 41, 42, 43, 44, 45, 46, 47, 48, 212, 213, 214, 215, 223, 224, 225, 226, 227, 228, 229] (by decide +kernel) (by decide +kernel)) (goodIn_sub (fun _ h => List.mem_cons_of_mem _ (List.mem_append_right _ h)) (by decide +kernel))
set_option maxRecDepth 20000 in
theorem gX3_isSame_X2_toldIn : GoodIn wsX3_isSame (wsV RX3 118 RX2 yX2_toldIn wsX2_toldIn) := goodIn_app (goodIn_of _ (by decide +kernel)) ggX3_isSame_X2_toldIn
set_option maxRecDepth 20000 in
theorem ggX3_isSame_X2_allowedIn : GoodIn wsX3_isSame wsX2_allowedIn := goodIn_ca (goodIn_r _ [181, 27, 16, 144, 145, 14, 146, 100, 101, 182, 183, 184, 37, 185, 186, 187, 152, 153, 154, 155, 156, 157, 158, 89, 90, 117, 40, 41, 42, 43, 44, 45, 46, 47, 48, 212, 213, 214, 215, 216, 217, 218, 219, 220, 221, 222, 223, 224, 225, 226, 227, 228, 229] (by decide +kernel) (by decide +kernel)) (goodIn_sub (fun _ h => List.mem_cons_of_mem _ (List.mem_append_right _ h)) (by decide +kernel))
set_option maxRecDepth 20000 in
theorem gX3_isSame_X2_allowedIn : GoodIn wsX3_isSame (wsV RX3 121 RX2 yX2_allowedIn wsX2_allowedIn) := goodIn_app (goodIn_of _ (by decide +kernel)) ggX3_isSame_X2_allowedIn
set_option maxRecDepth 20000 in
theorem ggX3_isSame_X2_bansOf : GoodIn wsX3_isSame wsX2_bansOf := goodIn_ca (goodIn_r _ [191, 27, 192, 193, 144, 145, 14, 146, 100, 101, 117, 40, 41, 42, 43, 44, 45, 46, 47, 48, 212, 213, 214, 215, 223, 224, 225, 226, 227, 228, 229] (by decide +kernel) (by decide +kernel)) (goodIn_sub (fun _ h => List.mem_cons_of_mem _ (List.mem_append_right _ h)) (by decide +kernel))
set_option maxRecDepth 20000 in
theorem gX3_isSame_X2_bansOf : GoodIn wsX3_isSame (wsV RX3 124 RX2 yX2_bansOf wsX2_bansOf) := goodIn_app (goodIn_of _ (by decide +kernel)) ggX3_isSame_X2_bansOf
set_option maxRecDepth 20000 in
theorem ggX3_isSame_X2_isOpen : GoodIn wsX3_isSame wsX2_isOpen := goodIn_ca (goodIn_r _ [197, 27, 198, 144, 145, 14, 146, 100, 101, 138, 89, 90, 212, 213, 214, 215, 223, 224, 225, 226, 227, 228, 229] (by decide +kernel) (by decide +kernel)) (goodIn_sub (fun _ h => List.mem_cons_of_mem _ (List.mem_append_right _ h)) (by decide +kernel))
set_option maxRecDepth 20000 in
theorem gX3_isSame_X2_isOpen : GoodIn wsX3_isSame (wsV RX3 127 RX2 yX2_isOpen wsX2_isOpen) := goodIn_app (goodIn_of _ (by decide +kernel)) ggX3_isSame_X2_isOpen
set_option maxRecDepth 20000 in
theorem ggX3_isSame_X2_meanBeasts : GoodIn wsX3_isSame wsX2_meanBeasts := goodIn_r _ [202, 16, 17, 116, 117, 40, 14, 41, 42, 43, 44, 45, 46, 47, 48, 212, 213, 214, 215, 216, 217, 218, 219, 220, 221, 222] (by decide +kernel) (by decide +kernel)
set_option maxRecDepth 20000 in
theorem gX3_isSame_X2_meanBeasts : GoodIn wsX3_isSame (wsV RX3 130 RX2 yX2_meanBeasts wsX2_meanBeasts) := goodIn_app (goodIn_of _ (by decide +kernel)) ggX3_isSame_X2_meanBeasts
theorem dX3_isSame_0 : decode cX3_isSame 0 = .ok (.aload_n 1, 1) := by decide +kernel
theorem dX3_isSame_1 : decode cX3_isSame 1 = .ok (.invokevirtual 63, 3) := by decide +kernel
theorem dX3_isSame_4 : decode cX3_isSame 4 = .ok (.aload_n 0, 1) := by decide +kernel
theorem dX3_isSame_5 : decode cX3_isSame 5 = .ok (.getfield 35, 3) := by decide +kernel
theorem dX3_isSame_8 : decode cX3_isSame 8 = .ok (.if_icmp .ne 65, 3) := by decide +kernel
theorem dX3_isSame_11 : decode cX3_isSame 11 = .ok (.aload_n 1, 1) := by decide +kernel
theorem dX3_isSame_12 : decode cX3_isSame 12 = .ok (.invokevirtual 68, 3) := by decide +kernel
theorem dX3_isSame_15 : decode cX3_isSame 15 = .ok (.aload_n 0, 1) := by decide +kernel
theorem dX3_isSame_16 : decode cX3_isSame 16 = .ok (.getfield 39, 3) := by decide +kernel
theorem dX3_isSame_19 : decode cX3_isSame 19 = .ok (.if_icmp .ne 54, 3) := by decide +kernel
theorem dX3_isSame_22 : decode cX3_isSame 22 = .ok (.aload_n 1, 1) := by decide +kernel
theorem dX3_isSame_23 : decode cX3_isSame 23 = .ok (.invokevirtual 70, 3) := by decide +kernel
theorem dX3_isSame_26 : decode cX3_isSame 26 = .ok (.aload_n 0, 1) := by decide +kernel
theorem dX3_isSame_27 : decode cX3_isSame 27 = .ok (.invokevirtual 73, 3) := by decide +kernel
theorem dX3_isSame_30 : decode cX3_isSame 30 = .ok (.if_icmp .ne 43, 3) := by decide +kernel
theorem dX3_isSame_33 : decode cX3_isSame 33 = .ok (.aload_n 1, 1) := by decide +kernel
theorem dX3_isSame_34 : decode cX3_isSame 34 = .ok (.invokevirtual 74, 3) := by decide +kernel
theorem dX3_isSame_37 : decode cX3_isSame 37 = .ok (.aload_n 0, 1) := by decide +kernel
theorem dX3_isSame_38 : decode cX3_isSame 38 = .ok (.getfield 42, 3) := by decide +kernel
theorem dX3_isSame_41 : decode cX3_isSame 41 = .ok (.if_icmp .ne 32, 3) := by decide +kernel
theorem dX3_isSame_44 : decode cX3_isSame 44 = .ok (.aload_n 1, 1) := by decide +kernel
theorem dX3_isSame_45 : decode cX3_isSame 45 = .ok (.invokevirtual 76, 3) := by decide +kernel
theorem dX3_isSame_48 : decode cX3_isSame 48 = .ok (.aload_n 0, 1) := by decide +kernel
theorem dX3_isSame_49 : decode cX3_isSame 49 = .ok (.iconst 0, 1) := by decide +kernel
theorem dX3_isSame_50 : decode cX3_isSame 50 = .ok (.bipush 10, 2) := by decide +kernel
theorem dX3_isSame_52 : decode cX3_isSame 52 = .ok (.invokevirtual 79, 3) := by decide +kernel
theorem dX3_isSame_55 : decode cX3_isSame 55 = .ok (.if_icmp .ne 18, 3) := by decide +kernel
theorem dX3_isSame_58 : decode cX3_isSame 58 = .ok (.aload_n 1, 1) := by decide +kernel
theorem dX3_isSame_59 : decode cX3_isSame 59 = .ok (.invokevirtual 83, 3) := by decide +kernel
theorem dX3_isSame_62 : decode cX3_isSame 62 = .ok (.aload_n 0, 1) := by decide +kernel
theorem dX3_isSame_63 : decode cX3_isSame 63 = .ok (.bipush 10, 2) := by decide +kernel
theorem dX3_isSame_65 : decode cX3_isSame 65 = .ok (.bipush 22, 2) := by decide +kernel
theorem dX3_isSame_67 : decode cX3_isSame 67 = .ok (.invokevirtual 79, 3) := by decide +kernel
theorem dX3_isSame_70 : decode cX3_isSame 70 = .ok (.if_icmp .eq 5, 3) := by decide +kernel
theorem dX3_isSame_73 : decode cX3_isSame 73 = .ok (.iconst 0, 1) := by decide +kernel
theorem dX3_isSame_74 : decode cX3_isSame 74 = .ok (.ireturn, 1) := by decide +kernel
theorem dX3_isSame_75 : decode cX3_isSame 75 = .ok (.iconst 0, 1) := by decide +kernel
theorem dX3_isSame_76 : decode cX3_isSame 76 = .ok (.istore_n 2, 1) := by decide +kernel
theorem dX3_isSame_77 : decode cX3_isSame 77 = .ok (.bipush 22, 2) := by decide +kernel
theorem dX3_isSame_79 : decode cX3_isSame 79 = .ok (.newarray .int, 2) := by decide +kernel
theorem dX3_isSame_81 : decode cX3_isSame 81 = .ok (.astore_n 3, 1) := by decide +kernel
theorem dX3_isSame_82 : decode cX3_isSame 82 = .ok (.iconst 0, 1) := by decide +kernel
theorem dX3_isSame_83 : decode cX3_isSame 83 = .ok (.istore 4, 2) := by decide +kernel
theorem dX3_isSame_85 : decode cX3_isSame 85 = .ok (.iload 4, 2) := by decide +kernel
theorem dX3_isSame_87 : decode cX3_isSame 87 = .ok (.aload_n 0, 1) := by decide +kernel
theorem dX3_isSame_88 : decode cX3_isSame 88 = .ok (.getfield 35, 3) := by decide +kernel
theorem dX3_isSame_91 : decode cX3_isSame 91 = .ok (.if_icmp .ge 300, 3) := by decide +kernel
theorem dX3_isSame_94 : decode cX3_isSame 94 = .ok (.iconst 0, 1) := by decide +kernel
theorem dX3_isSame_95 : decode cX3_isSame 95 = .ok (.istore 5, 2) := by decide +kernel
theorem dX3_isSame_97 : decode cX3_isSame 97 = .ok (.iconst 0, 1) := by decide +kernel
theorem dX3_isSame_98 : decode cX3_isSame 98 = .ok (.istore 6, 2) := by decide +kernel
theorem dX3_isSame_100 : decode cX3_isSame 100 = .ok (.iload 6, 2) := by decide +kernel
theorem dX3_isSame_102 : decode cX3_isSame 102 = .ok (.aload_n 0, 1) := by decide +kernel
theorem dX3_isSame_103 : decode cX3_isSame 103 = .ok (.getfield 35, 3) := by decide +kernel
theorem dX3_isSame_106 : decode cX3_isSame 106 = .ok (.if_icmp .ge 33, 3) := by decide +kernel
theorem dX3_isSame_109 : decode cX3_isSame 109 = .ok (.iload 5, 2) := by decide +kernel
theorem dX3_isSame_111 : decode cX3_isSame 111 = .ok (.aload_n 0, 1) := by decide +kernel
theorem dX3_isSame_112 : decode cX3_isSame 112 = .ok (.getfield 9, 3) := by decide +kernel
theorem dX3_isSame_115 : decode cX3_isSame 115 = .ok (.iload 6, 2) := by decide +kernel
theorem dX3_isSame_117 : decode cX3_isSame 117 = .ok (.aaload, 1) := by decide +kernel
theorem dX3_isSame_118 : decode cX3_isSame 118 = .ok (.iconst 2, 1) := by decide +kernel
theorem dX3_isSame_119 : decode cX3_isSame 119 = .ok (.iaload, 1) := by decide +kernel
theorem dX3_isSame_120 : decode cX3_isSame 120 = .ok (.iload 4, 2) := by decide +kernel
theorem dX3_isSame_122 : decode cX3_isSame 122 = .ok (.if_icmp .ne 7, 3) := by decide +kernel
theorem dX3_isSame_125 : decode cX3_isSame 125 = .ok (.iconst 1, 1) := by decide +kernel
theorem dX3_isSame_126 : decode cX3_isSame 126 = .ok (.goto 4, 3) := by decide +kernel
theorem dX3_isSame_129 : decode cX3_isSame 129 = .ok (.iconst 0, 1) := by decide +kernel
theorem dX3_isSame_130 : decode cX3_isSame 130 = .ok (.iadd, 1) := by decide +kernel
theorem dX3_isSame_131 : decode cX3_isSame 131 = .ok (.istore 5, 2) := by decide +kernel
theorem dX3_isSame_133 : decode cX3_isSame 133 = .ok (.iinc 6 1, 3) := by decide +kernel
theorem dX3_isSame_136 : decode cX3_isSame 136 = .ok (.goto (-36), 3) := by decide +kernel
theorem dX3_isSame_139 : decode cX3_isSame 139 = .ok (.aload_n 1, 1) := by decide +kernel
theorem dX3_isSame_140 : decode cX3_isSame 140 = .ok (.iload 4, 2) := by decide +kernel
theorem dX3_isSame_142 : decode cX3_isSame 142 = .ok (.invokevirtual 86, 3) := by decide +kernel
theorem dX3_isSame_145 : decode cX3_isSame 145 = .ok (.aload_n 0, 1) := by decide +kernel
theorem dX3_isSame_146 : decode cX3_isSame 146 = .ok (.getfield 9, 3) := by decide +kernel
theorem dX3_isSame_149 : decode cX3_isSame 149 = .ok (.iload 4, 2) := by decide +kernel
theorem dX3_isSame_151 : decode cX3_isSame 151 = .ok (.aaload, 1) := by decide +kernel
theorem dX3_isSame_152 : decode cX3_isSame 152 = .ok (.iconst 0, 1) := by decide +kernel
theorem dX3_isSame_153 : decode cX3_isSame 153 = .ok (.iaload, 1) := by decide +kernel
theorem dX3_isSame_154 : decode cX3_isSame 154 = .ok (.if_icmp .ne 80, 3) := by decide +kernel
theorem dX3_isSame_157 : decode cX3_isSame 157 = .ok (.aload_n 1, 1) := by decide +kernel
theorem dX3_isSame_158 : decode cX3_isSame 158 = .ok (.iload 4, 2) := by decide +kernel
theorem dX3_isSame_160 : decode cX3_isSame 160 = .ok (.invokevirtual 89, 3) := by decide +kernel
theorem dX3_isSame_163 : decode cX3_isSame 163 = .ok (.aload_n 0, 1) := by decide +kernel
theorem dX3_isSame_164 : decode cX3_isSame 164 = .ok (.getfield 9, 3) := by decide +kernel
theorem dX3_isSame_167 : decode cX3_isSame 167 = .ok (.iload 4, 2) := by decide +kernel
theorem dX3_isSame_169 : decode cX3_isSame 169 = .ok (.aaload, 1) := by decide +kernel
theorem dX3_isSame_170 : decode cX3_isSame 170 = .ok (.iconst 1, 1) := by decide +kernel
theorem dX3_isSame_171 : decode cX3_isSame 171 = .ok (.iaload, 1) := by decide +kernel
theorem dX3_isSame_172 : decode cX3_isSame 172 = .ok (.if_icmp .ne 62, 3) := by decide +kernel
theorem dX3_isSame_175 : decode cX3_isSame 175 = .ok (.aload_n 1, 1) := by decide +kernel
theorem dX3_isSame_176 : decode cX3_isSame 176 = .ok (.iload 4, 2) := by decide +kernel
theorem dX3_isSame_178 : decode cX3_isSame 178 = .ok (.invokevirtual 92, 3) := by decide +kernel
theorem dX3_isSame_181 : decode cX3_isSame 181 = .ok (.aload_n 0, 1) := by decide +kernel
theorem dX3_isSame_182 : decode cX3_isSame 182 = .ok (.getfield 9, 3) := by decide +kernel
theorem dX3_isSame_185 : decode cX3_isSame 185 = .ok (.iload 4, 2) := by decide +kernel
theorem dX3_isSame_187 : decode cX3_isSame 187 = .ok (.aaload, 1) := by decide +kernel
theorem dX3_isSame_188 : decode cX3_isSame 188 = .ok (.iconst 2, 1) := by decide +kernel
theorem dX3_isSame_189 : decode cX3_isSame 189 = .ok (.iaload, 1) := by decide +kernel
theorem dX3_isSame_190 : decode cX3_isSame 190 = .ok (.if_icmp .ne 44, 3) := by decide +kernel
theorem dX3_isSame_193 : decode cX3_isSame 193 = .ok (.aload_n 1, 1) := by decide +kernel
theorem dX3_isSame_194 : decode cX3_isSame 194 = .ok (.iload 4, 2) := by decide +kernel
theorem dX3_isSame_196 : decode cX3_isSame 196 = .ok (.invokevirtual 95, 3) := by decide +kernel
theorem dX3_isSame_199 : decode cX3_isSame 199 = .ok (.aload_n 0, 1) := by decide +kernel
theorem dX3_isSame_200 : decode cX3_isSame 200 = .ok (.iload 4, 2) := by decide +kernel
theorem dX3_isSame_202 : decode cX3_isSame 202 = .ok (.invokevirtual 98, 3) := by decide +kernel
theorem dX3_isSame_205 : decode cX3_isSame 205 = .ok (.if_icmp .ne 29, 3) := by decide +kernel
theorem dX3_isSame_208 : decode cX3_isSame 208 = .ok (.aload_n 1, 1) := by decide +kernel
theorem dX3_isSame_209 : decode cX3_isSame 209 = .ok (.iload 4, 2) := by decide +kernel
theorem dX3_isSame_211 : decode cX3_isSame 211 = .ok (.invokevirtual 99, 3) := by decide +kernel
theorem dX3_isSame_214 : decode cX3_isSame 214 = .ok (.aload_n 0, 1) := by decide +kernel
theorem dX3_isSame_215 : decode cX3_isSame 215 = .ok (.iload 4, 2) := by decide +kernel
theorem dX3_isSame_217 : decode cX3_isSame 217 = .ok (.invokevirtual 56, 3) := by decide +kernel
theorem dX3_isSame_220 : decode cX3_isSame 220 = .ok (.if_icmp .ne 14, 3) := by decide +kernel
theorem dX3_isSame_223 : decode cX3_isSame 223 = .ok (.aload_n 1, 1) := by decide +kernel
theorem dX3_isSame_224 : decode cX3_isSame 224 = .ok (.iload 4, 2) := by decide +kernel
theorem dX3_isSame_226 : decode cX3_isSame 226 = .ok (.invokevirtual 102, 3) := by decide +kernel
theorem dX3_isSame_229 : decode cX3_isSame 229 = .ok (.iload 5, 2) := by decide +kernel
theorem dX3_isSame_231 : decode cX3_isSame 231 = .ok (.if_icmp .eq 5, 3) := by decide +kernel
theorem dX3_isSame_234 : decode cX3_isSame 234 = .ok (.iconst 0, 1) := by decide +kernel
theorem dX3_isSame_235 : decode cX3_isSame 235 = .ok (.ireturn, 1) := by decide +kernel
theorem dX3_isSame_236 : decode cX3_isSame 236 = .ok (.iconst 0, 1) := by decide +kernel
theorem dX3_isSame_237 : decode cX3_isSame 237 = .ok (.istore 6, 2) := by decide +kernel
theorem dX3_isSame_239 : decode cX3_isSame 239 = .ok (.iload 6, 2) := by decide +kernel
theorem dX3_isSame_241 : decode cX3_isSame 241 = .ok (.bipush 12, 2) := by decide +kernel
theorem dX3_isSame_243 : decode cX3_isSame 243 = .ok (.if_icmp .ge 60, 3) := by decide +kernel
theorem dX3_isSame_246 : decode cX3_isSame 246 = .ok (.aload_n 1, 1) := by decide +kernel
theorem dX3_isSame_247 : decode cX3_isSame 247 = .ok (.iload 4, 2) := by decide +kernel
theorem dX3_isSame_249 : decode cX3_isSame 249 = .ok (.iload 6, 2) := by decide +kernel
theorem dX3_isSame_251 : decode cX3_isSame 251 = .ok (.invokevirtual 105, 3) := by decide +kernel
theorem dX3_isSame_254 : decode cX3_isSame 254 = .ok (.aload_n 0, 1) := by decide +kernel
theorem dX3_isSame_255 : decode cX3_isSame 255 = .ok (.getfield 17, 3) := by decide +kernel
theorem dX3_isSame_258 : decode cX3_isSame 258 = .ok (.iload 4, 2) := by decide +kernel
theorem dX3_isSame_260 : decode cX3_isSame 260 = .ok (.aaload, 1) := by decide +kernel
theorem dX3_isSame_261 : decode cX3_isSame 261 = .ok (.iload 6, 2) := by decide +kernel
theorem dX3_isSame_263 : decode cX3_isSame 263 = .ok (.baload, 1) := by decide +kernel
theorem dX3_isSame_264 : decode cX3_isSame 264 = .ok (.if_icmp .eq 5, 3) := by decide +kernel
theorem dX3_isSame_267 : decode cX3_isSame 267 = .ok (.iconst 0, 1) := by decide +kernel
theorem dX3_isSame_268 : decode cX3_isSame 268 = .ok (.ireturn, 1) := by decide +kernel
theorem dX3_isSame_269 : decode cX3_isSame 269 = .ok (.aload_n 3, 1) := by decide +kernel
theorem dX3_isSame_270 : decode cX3_isSame 270 = .ok (.bipush 10, 2) := by decide +kernel
theorem dX3_isSame_272 : decode cX3_isSame 272 = .ok (.iload 6, 2) := by decide +kernel
theorem dX3_isSame_274 : decode cX3_isSame 274 = .ok (.iadd, 1) := by decide +kernel
theorem dX3_isSame_275 : decode cX3_isSame 275 = .ok (.dup2, 1) := by decide +kernel
theorem dX3_isSame_276 : decode cX3_isSame 276 = .ok (.iaload, 1) := by decide +kernel
theorem dX3_isSame_277 : decode cX3_isSame 277 = .ok (.aload_n 0, 1) := by decide +kernel
theorem dX3_isSame_278 : decode cX3_isSame 278 = .ok (.getfield 17, 3) := by decide +kernel
theorem dX3_isSame_281 : decode cX3_isSame 281 = .ok (.iload 4, 2) := by decide +kernel
theorem dX3_isSame_283 : decode cX3_isSame 283 = .ok (.aaload, 1) := by decide +kernel
theorem dX3_isSame_284 : decode cX3_isSame 284 = .ok (.iload 6, 2) := by decide +kernel
theorem dX3_isSame_286 : decode cX3_isSame 286 = .ok (.baload, 1) := by decide +kernel
theorem dX3_isSame_287 : decode cX3_isSame 287 = .ok (.ifCond .eq 7, 3) := by decide +kernel
theorem dX3_isSame_290 : decode cX3_isSame 290 = .ok (.iconst 1, 1) := by decide +kernel
theorem dX3_isSame_291 : decode cX3_isSame 291 = .ok (.goto 4, 3) := by decide +kernel
theorem dX3_isSame_294 : decode cX3_isSame 294 = .ok (.iconst 0, 1) := by decide +kernel
theorem dX3_isSame_295 : decode cX3_isSame 295 = .ok (.iadd, 1) := by decide +kernel
theorem dX3_isSame_296 : decode cX3_isSame 296 = .ok (.iastore, 1) := by decide +kernel
theorem dX3_isSame_297 : decode cX3_isSame 297 = .ok (.iinc 6 1, 3) := by decide +kernel
theorem dX3_isSame_300 : decode cX3_isSame 300 = .ok (.goto (-61), 3) := by decide +kernel
theorem dX3_isSame_303 : decode cX3_isSame 303 = .ok (.iconst 0, 1) := by decide +kernel
theorem dX3_isSame_304 : decode cX3_isSame 304 = .ok (.istore 6, 2) := by decide +kernel
theorem dX3_isSame_306 : decode cX3_isSame 306 = .ok (.iload 6, 2) := by decide +kernel
theorem dX3_isSame_308 : decode cX3_isSame 308 = .ok (.bipush 6, 2) := by decide +kernel
theorem dX3_isSame_310 : decode cX3_isSame 310 = .ok (.if_icmp .ge 51, 3) := by decide +kernel
theorem dX3_isSame_313 : decode cX3_isSame 313 = .ok (.aload_n 1, 1) := by decide +kernel
theorem dX3_isSame_314 : decode cX3_isSame 314 = .ok (.iload 4, 2) := by decide +kernel
theorem dX3_isSame_316 : decode cX3_isSame 316 = .ok (.iload 6, 2) := by decide +kernel
theorem dX3_isSame_318 : decode cX3_isSame 318 = .ok (.invokevirtual 108, 3) := by decide +kernel
theorem dX3_isSame_321 : decode cX3_isSame 321 = .ok (.aload_n 0, 1) := by decide +kernel
theorem dX3_isSame_322 : decode cX3_isSame 322 = .ok (.getfield 22, 3) := by decide +kernel
theorem dX3_isSame_325 : decode cX3_isSame 325 = .ok (.iload 4, 2) := by decide +kernel
theorem dX3_isSame_327 : decode cX3_isSame 327 = .ok (.aaload, 1) := by decide +kernel
theorem dX3_isSame_328 : decode cX3_isSame 328 = .ok (.iload 6, 2) := by decide +kernel
theorem dX3_isSame_330 : decode cX3_isSame 330 = .ok (.baload, 1) := by decide +kernel
theorem dX3_isSame_331 : decode cX3_isSame 331 = .ok (.if_icmp .ne 22, 3) := by decide +kernel
theorem dX3_isSame_334 : decode cX3_isSame 334 = .ok (.aload_n 1, 1) := by decide +kernel
theorem dX3_isSame_335 : decode cX3_isSame 335 = .ok (.iload 4, 2) := by decide +kernel
theorem dX3_isSame_337 : decode cX3_isSame 337 = .ok (.iload 6, 2) := by decide +kernel
theorem dX3_isSame_339 : decode cX3_isSame 339 = .ok (.invokevirtual 111, 3) := by decide +kernel
theorem dX3_isSame_342 : decode cX3_isSame 342 = .ok (.aload_n 0, 1) := by decide +kernel
theorem dX3_isSame_343 : decode cX3_isSame 343 = .ok (.iload 4, 2) := by decide +kernel
theorem dX3_isSame_345 : decode cX3_isSame 345 = .ok (.iload 6, 2) := by decide +kernel
theorem dX3_isSame_347 : decode cX3_isSame 347 = .ok (.invokevirtual 49, 3) := by decide +kernel
theorem dX3_isSame_350 : decode cX3_isSame 350 = .ok (.if_icmp .eq 5, 3) := by decide +kernel
theorem dX3_isSame_353 : decode cX3_isSame 353 = .ok (.iconst 0, 1) := by decide +kernel
theorem dX3_isSame_354 : decode cX3_isSame 354 = .ok (.ireturn, 1) := by decide +kernel
theorem dX3_isSame_355 : decode cX3_isSame 355 = .ok (.iinc 6 1, 3) := by decide +kernel
theorem dX3_isSame_358 : decode cX3_isSame 358 = .ok (.goto (-52), 3) := by decide +kernel
theorem dX3_isSame_361 : decode cX3_isSame 361 = .ok (.iload_n 2, 1) := by decide +kernel
theorem dX3_isSame_362 : decode cX3_isSame 362 = .ok (.aload_n 0, 1) := by decide +kernel
theorem dX3_isSame_363 : decode cX3_isSame 363 = .ok (.iload 4, 2) := by decide +kernel
theorem dX3_isSame_365 : decode cX3_isSame 365 = .ok (.invokevirtual 98, 3) := by decide +kernel
theorem dX3_isSame_368 : decode cX3_isSame 368 = .ok (.iadd, 1) := by decide +kernel
theorem dX3_isSame_369 : decode cX3_isSame 369 = .ok (.istore_n 2, 1) := by decide +kernel
theorem dX3_isSame_370 : decode cX3_isSame 370 = .ok (.aload_n 3, 1) := by decide +kernel
theorem dX3_isSame_371 : decode cX3_isSame 371 = .ok (.aload_n 0, 1) := by decide +kernel
theorem dX3_isSame_372 : decode cX3_isSame 372 = .ok (.getfield 9, 3) := by decide +kernel
theorem dX3_isSame_375 : decode cX3_isSame 375 = .ok (.iload 4, 2) := by decide +kernel
theorem dX3_isSame_377 : decode cX3_isSame 377 = .ok (.aaload, 1) := by decide +kernel
theorem dX3_isSame_378 : decode cX3_isSame 378 = .ok (.iconst 0, 1) := by decide +kernel
theorem dX3_isSame_379 : decode cX3_isSame 379 = .ok (.iaload, 1) := by decide +kernel
theorem dX3_isSame_380 : decode cX3_isSame 380 = .ok (.dup2, 1) := by decide +kernel
theorem dX3_isSame_381 : decode cX3_isSame 381 = .ok (.iaload, 1) := by decide +kernel
theorem dX3_isSame_382 : decode cX3_isSame 382 = .ok (.iconst 1, 1) := by decide +kernel
theorem dX3_isSame_383 : decode cX3_isSame 383 = .ok (.iadd, 1) := by decide +kernel
theorem dX3_isSame_384 : decode cX3_isSame 384 = .ok (.iastore, 1) := by decide +kernel
theorem dX3_isSame_385 : decode cX3_isSame 385 = .ok (.iinc 4 1, 3) := by decide +kernel
theorem dX3_isSame_388 : decode cX3_isSame 388 = .ok (.goto (-303), 3) := by decide +kernel
theorem dX3_isSame_391 : decode cX3_isSame 391 = .ok (.iconst 0, 1) := by decide +kernel
theorem dX3_isSame_392 : decode cX3_isSame 392 = .ok (.istore 4, 2) := by decide +kernel
theorem dX3_isSame_394 : decode cX3_isSame 394 = .ok (.iload 4, 2) := by decide +kernel
theorem dX3_isSame_396 : decode cX3_isSame 396 = .ok (.bipush 10, 2) := by decide +kernel
theorem dX3_isSame_398 : decode cX3_isSame 398 = .ok (.if_icmp .ge 24, 3) := by decide +kernel
theorem dX3_isSame_401 : decode cX3_isSame 401 = .ok (.aload_n 1, 1) := by decide +kernel
theorem dX3_isSame_402 : decode cX3_isSame 402 = .ok (.iload 4, 2) := by decide +kernel
theorem dX3_isSame_404 : decode cX3_isSame 404 = .ok (.invokevirtual 112, 3) := by decide +kernel
theorem dX3_isSame_407 : decode cX3_isSame 407 = .ok (.aload_n 3, 1) := by decide +kernel
theorem dX3_isSame_408 : decode cX3_isSame 408 = .ok (.iload 4, 2) := by decide +kernel
theorem dX3_isSame_410 : decode cX3_isSame 410 = .ok (.iaload, 1) := by decide +kernel
theorem dX3_isSame_411 : decode cX3_isSame 411 = .ok (.if_icmp .eq 5, 3) := by decide +kernel
theorem dX3_isSame_414 : decode cX3_isSame 414 = .ok (.iconst 0, 1) := by decide +kernel
theorem dX3_isSame_415 : decode cX3_isSame 415 = .ok (.ireturn, 1) := by decide +kernel
theorem dX3_isSame_416 : decode cX3_isSame 416 = .ok (.iinc 4 1, 3) := by decide +kernel
theorem dX3_isSame_419 : decode cX3_isSame 419 = .ok (.goto (-25), 3) := by decide +kernel
theorem dX3_isSame_422 : decode cX3_isSame 422 = .ok (.iconst 0, 1) := by decide +kernel
theorem dX3_isSame_423 : decode cX3_isSame 423 = .ok (.istore 4, 2) := by decide +kernel
theorem dX3_isSame_425 : decode cX3_isSame 425 = .ok (.iload 4, 2) := by decide +kernel
theorem dX3_isSame_427 : decode cX3_isSame 427 = .ok (.bipush 12, 2) := by decide +kernel
theorem dX3_isSame_429 : decode cX3_isSame 429 = .ok (.if_icmp .ge 27, 3) := by decide +kernel
theorem dX3_isSame_432 : decode cX3_isSame 432 = .ok (.aload_n 1, 1) := by decide +kernel
theorem dX3_isSame_433 : decode cX3_isSame 433 = .ok (.iload 4, 2) := by decide +kernel
theorem dX3_isSame_435 : decode cX3_isSame 435 = .ok (.invokevirtual 115, 3) := by decide +kernel
theorem dX3_isSame_438 : decode cX3_isSame 438 = .ok (.aload_n 3, 1) := by decide +kernel
theorem dX3_isSame_439 : decode cX3_isSame 439 = .ok (.bipush 10, 2) := by decide +kernel
theorem dX3_isSame_441 : decode cX3_isSame 441 = .ok (.iload 4, 2) := by decide +kernel
theorem dX3_isSame_443 : decode cX3_isSame 443 = .ok (.iadd, 1) := by decide +kernel
theorem dX3_isSame_444 : decode cX3_isSame 444 = .ok (.iaload, 1) := by decide +kernel
theorem dX3_isSame_445 : decode cX3_isSame 445 = .ok (.if_icmp .eq 5, 3) := by decide +kernel
theorem dX3_isSame_448 : decode cX3_isSame 448 = .ok (.iconst 0, 1) := by decide +kernel
theorem dX3_isSame_449 : decode cX3_isSame 449 = .ok (.ireturn, 1) := by decide +kernel
theorem dX3_isSame_450 : decode cX3_isSame 450 = .ok (.iinc 4 1, 3) := by decide +kernel
theorem dX3_isSame_453 : decode cX3_isSame 453 = .ok (.goto (-28), 3) := by decide +kernel
theorem dX3_isSame_456 : decode cX3_isSame 456 = .ok (.iconst 0, 1) := by decide +kernel
theorem dX3_isSame_457 : decode cX3_isSame 457 = .ok (.istore 4, 2) := by decide +kernel
theorem dX3_isSame_459 : decode cX3_isSame 459 = .ok (.iload 4, 2) := by decide +kernel
theorem dX3_isSame_461 : decode cX3_isSame 461 = .ok (.bipush 6, 2) := by decide +kernel
theorem dX3_isSame_463 : decode cX3_isSame 463 = .ok (.if_icmp .ge 258, 3) := by decide +kernel
theorem dX3_isSame_466 : decode cX3_isSame 466 = .ok (.iconst 0, 1) := by decide +kernel
theorem dX3_isSame_467 : decode cX3_isSame 467 = .ok (.istore 5, 2) := by decide +kernel
theorem dX3_isSame_469 : decode cX3_isSame 469 = .ok (.iconst 0, 1) := by decide +kernel
theorem dX3_isSame_470 : decode cX3_isSame 470 = .ok (.istore 6, 2) := by decide +kernel
theorem dX3_isSame_472 : decode cX3_isSame 472 = .ok (.iconst 0, 1) := by decide +kernel
theorem dX3_isSame_473 : decode cX3_isSame 473 = .ok (.istore 7, 2) := by decide +kernel
theorem dX3_isSame_475 : decode cX3_isSame 475 = .ok (.iconst 0, 1) := by decide +kernel
theorem dX3_isSame_476 : decode cX3_isSame 476 = .ok (.istore 8, 2) := by decide +kernel
theorem dX3_isSame_478 : decode cX3_isSame 478 = .ok (.iload 8, 2) := by decide +kernel
theorem dX3_isSame_480 : decode cX3_isSame 480 = .ok (.aload_n 0, 1) := by decide +kernel
theorem dX3_isSame_481 : decode cX3_isSame 481 = .ok (.getfield 35, 3) := by decide +kernel
theorem dX3_isSame_484 : decode cX3_isSame 484 = .ok (.if_icmp .ge 53, 3) := by decide +kernel
theorem dX3_isSame_487 : decode cX3_isSame 487 = .ok (.iload 5, 2) := by decide +kernel
theorem dX3_isSame_489 : decode cX3_isSame 489 = .ok (.aload_n 0, 1) := by decide +kernel
theorem dX3_isSame_490 : decode cX3_isSame 490 = .ok (.getfield 22, 3) := by decide +kernel
theorem dX3_isSame_493 : decode cX3_isSame 493 = .ok (.iload 8, 2) := by decide +kernel
theorem dX3_isSame_495 : decode cX3_isSame 495 = .ok (.aaload, 1) := by decide +kernel
theorem dX3_isSame_496 : decode cX3_isSame 496 = .ok (.iload 4, 2) := by decide +kernel
theorem dX3_isSame_498 : decode cX3_isSame 498 = .ok (.baload, 1) := by decide +kernel
theorem dX3_isSame_499 : decode cX3_isSame 499 = .ok (.ifCond .eq 7, 3) := by decide +kernel
theorem dX3_isSame_502 : decode cX3_isSame 502 = .ok (.iconst 1, 1) := by decide +kernel
theorem dX3_isSame_503 : decode cX3_isSame 503 = .ok (.goto 4, 3) := by decide +kernel
theorem dX3_isSame_506 : decode cX3_isSame 506 = .ok (.iconst 0, 1) := by decide +kernel
theorem dX3_isSame_507 : decode cX3_isSame 507 = .ok (.iadd, 1) := by decide +kernel
theorem dX3_isSame_508 : decode cX3_isSame 508 = .ok (.istore 5, 2) := by decide +kernel
theorem dX3_isSame_510 : decode cX3_isSame 510 = .ok (.iload 6, 2) := by decide +kernel
theorem dX3_isSame_512 : decode cX3_isSame 512 = .ok (.aload_n 0, 1) := by decide +kernel
theorem dX3_isSame_513 : decode cX3_isSame 513 = .ok (.iload 8, 2) := by decide +kernel
theorem dX3_isSame_515 : decode cX3_isSame 515 = .ok (.iload 4, 2) := by decide +kernel
theorem dX3_isSame_517 : decode cX3_isSame 517 = .ok (.invokevirtual 49, 3) := by decide +kernel
theorem dX3_isSame_520 : decode cX3_isSame 520 = .ok (.ifCond .eq 7, 3) := by decide +kernel
theorem dX3_isSame_523 : decode cX3_isSame 523 = .ok (.iconst 0, 1) := by decide +kernel
theorem dX3_isSame_524 : decode cX3_isSame 524 = .ok (.goto 4, 3) := by decide +kernel
theorem dX3_isSame_527 : decode cX3_isSame 527 = .ok (.iconst 1, 1) := by decide +kernel
theorem dX3_isSame_528 : decode cX3_isSame 528 = .ok (.iadd, 1) := by decide +kernel
theorem dX3_isSame_529 : decode cX3_isSame 529 = .ok (.istore 6, 2) := by decide +kernel
theorem dX3_isSame_531 : decode cX3_isSame 531 = .ok (.iinc 8 1, 3) := by decide +kernel
theorem dX3_isSame_534 : decode cX3_isSame 534 = .ok (.goto (-56), 3) := by decide +kernel
theorem dX3_isSame_537 : decode cX3_isSame 537 = .ok (.aload_n 0, 1) := by decide +kernel
theorem dX3_isSame_538 : decode cX3_isSame 538 = .ok (.getfield 25, 3) := by decide +kernel
theorem dX3_isSame_541 : decode cX3_isSame 541 = .ok (.iload 4, 2) := by decide +kernel
theorem dX3_isSame_543 : decode cX3_isSame 543 = .ok (.aaload, 1) := by decide +kernel
theorem dX3_isSame_544 : decode cX3_isSame 544 = .ok (.astore 8, 2) := by decide +kernel
theorem dX3_isSame_546 : decode cX3_isSame 546 = .ok (.aload 8, 2) := by decide +kernel
theorem dX3_isSame_548 : decode cX3_isSame 548 = .ok (.arraylength, 1) := by decide +kernel
theorem dX3_isSame_549 : decode cX3_isSame 549 = .ok (.istore 9, 2) := by decide +kernel
theorem dX3_isSame_551 : decode cX3_isSame 551 = .ok (.iconst 0, 1) := by decide +kernel
theorem dX3_isSame_552 : decode cX3_isSame 552 = .ok (.istore 10, 2) := by decide +kernel
theorem dX3_isSame_554 : decode cX3_isSame 554 = .ok (.iload 10, 2) := by decide +kernel
theorem dX3_isSame_556 : decode cX3_isSame 556 = .ok (.iload 9, 2) := by decide +kernel
theorem dX3_isSame_558 : decode cX3_isSame 558 = .ok (.if_icmp .ge 31, 3) := by decide +kernel
theorem dX3_isSame_561 : decode cX3_isSame 561 = .ok (.aload 8, 2) := by decide +kernel
theorem dX3_isSame_563 : decode cX3_isSame 563 = .ok (.iload 10, 2) := by decide +kernel
theorem dX3_isSame_565 : decode cX3_isSame 565 = .ok (.baload, 1) := by decide +kernel
theorem dX3_isSame_566 : decode cX3_isSame 566 = .ok (.istore 11, 2) := by decide +kernel
theorem dX3_isSame_568 : decode cX3_isSame 568 = .ok (.iload 7, 2) := by decide +kernel
theorem dX3_isSame_570 : decode cX3_isSame 570 = .ok (.iload 11, 2) := by decide +kernel
theorem dX3_isSame_572 : decode cX3_isSame 572 = .ok (.ifCond .eq 7, 3) := by decide +kernel
theorem dX3_isSame_575 : decode cX3_isSame 575 = .ok (.iconst 1, 1) := by decide +kernel
theorem dX3_isSame_576 : decode cX3_isSame 576 = .ok (.goto 4, 3) := by decide +kernel
theorem dX3_isSame_579 : decode cX3_isSame 579 = .ok (.iconst 0, 1) := by decide +kernel
theorem dX3_isSame_580 : decode cX3_isSame 580 = .ok (.iadd, 1) := by decide +kernel
theorem dX3_isSame_581 : decode cX3_isSame 581 = .ok (.istore 7, 2) := by decide +kernel
theorem dX3_isSame_583 : decode cX3_isSame 583 = .ok (.iinc 10 1, 3) := by decide +kernel
theorem dX3_isSame_586 : decode cX3_isSame 586 = .ok (.goto (-32), 3) := by decide +kernel
theorem dX3_isSame_589 : decode cX3_isSame 589 = .ok (.aload_n 0, 1) := by decide +kernel
theorem dX3_isSame_590 : decode cX3_isSame 590 = .ok (.getfield 28, 3) := by decide +kernel
theorem dX3_isSame_593 : decode cX3_isSame 593 = .ok (.iload 4, 2) := by decide +kernel
theorem dX3_isSame_595 : decode cX3_isSame 595 = .ok (.aaload, 1) := by decide +kernel
theorem dX3_isSame_596 : decode cX3_isSame 596 = .ok (.astore 8, 2) := by decide +kernel
theorem dX3_isSame_598 : decode cX3_isSame 598 = .ok (.aload 8, 2) := by decide +kernel
theorem dX3_isSame_600 : decode cX3_isSame 600 = .ok (.arraylength, 1) := by decide +kernel
theorem dX3_isSame_601 : decode cX3_isSame 601 = .ok (.istore 9, 2) := by decide +kernel
theorem dX3_isSame_603 : decode cX3_isSame 603 = .ok (.iconst 0, 1) := by decide +kernel
theorem dX3_isSame_604 : decode cX3_isSame 604 = .ok (.istore 10, 2) := by decide +kernel
theorem dX3_isSame_606 : decode cX3_isSame 606 = .ok (.iload 10, 2) := by decide +kernel
theorem dX3_isSame_608 : decode cX3_isSame 608 = .ok (.iload 9, 2) := by decide +kernel
theorem dX3_isSame_610 : decode cX3_isSame 610 = .ok (.if_icmp .ge 31, 3) := by decide +kernel
theorem dX3_isSame_613 : decode cX3_isSame 613 = .ok (.aload 8, 2) := by decide +kernel
theorem dX3_isSame_615 : decode cX3_isSame 615 = .ok (.iload 10, 2) := by decide +kernel
theorem dX3_isSame_617 : decode cX3_isSame 617 = .ok (.baload, 1) := by decide +kernel
theorem dX3_isSame_618 : decode cX3_isSame 618 = .ok (.istore 11, 2) := by decide +kernel
theorem dX3_isSame_620 : decode cX3_isSame 620 = .ok (.iload 7, 2) := by decide +kernel
theorem dX3_isSame_622 : decode cX3_isSame 622 = .ok (.iload 11, 2) := by decide +kernel
theorem dX3_isSame_624 : decode cX3_isSame 624 = .ok (.ifCond .eq 7, 3) := by decide +kernel
theorem dX3_isSame_627 : decode cX3_isSame 627 = .ok (.iconst 1, 1) := by decide +kernel
theorem dX3_isSame_628 : decode cX3_isSame 628 = .ok (.goto 4, 3) := by decide +kernel
theorem dX3_isSame_631 : decode cX3_isSame 631 = .ok (.iconst 0, 1) := by decide +kernel
theorem dX3_isSame_632 : decode cX3_isSame 632 = .ok (.iadd, 1) := by decide +kernel
theorem dX3_isSame_633 : decode cX3_isSame 633 = .ok (.istore 7, 2) := by decide +kernel
theorem dX3_isSame_635 : decode cX3_isSame 635 = .ok (.iinc 10 1, 3) := by decide +kernel
theorem dX3_isSame_638 : decode cX3_isSame 638 = .ok (.goto (-32), 3) := by decide +kernel
theorem dX3_isSame_641 : decode cX3_isSame 641 = .ok (.aload_n 1, 1) := by decide +kernel
theorem dX3_isSame_642 : decode cX3_isSame 642 = .ok (.iload 4, 2) := by decide +kernel
theorem dX3_isSame_644 : decode cX3_isSame 644 = .ok (.invokevirtual 118, 3) := by decide +kernel
theorem dX3_isSame_647 : decode cX3_isSame 647 = .ok (.iload 5, 2) := by decide +kernel
theorem dX3_isSame_649 : decode cX3_isSame 649 = .ok (.if_icmp .ne 25, 3) := by decide +kernel
theorem dX3_isSame_652 : decode cX3_isSame 652 = .ok (.aload_n 1, 1) := by decide +kernel
theorem dX3_isSame_653 : decode cX3_isSame 653 = .ok (.iload 4, 2) := by decide +kernel
theorem dX3_isSame_655 : decode cX3_isSame 655 = .ok (.invokevirtual 121, 3) := by decide +kernel
theorem dX3_isSame_658 : decode cX3_isSame 658 = .ok (.iload 6, 2) := by decide +kernel
theorem dX3_isSame_660 : decode cX3_isSame 660 = .ok (.if_icmp .ne 14, 3) := by decide +kernel
theorem dX3_isSame_663 : decode cX3_isSame 663 = .ok (.aload_n 1, 1) := by decide +kernel
theorem dX3_isSame_664 : decode cX3_isSame 664 = .ok (.iload 4, 2) := by decide +kernel
theorem dX3_isSame_666 : decode cX3_isSame 666 = .ok (.invokevirtual 124, 3) := by decide +kernel
theorem dX3_isSame_669 : decode cX3_isSame 669 = .ok (.iload 7, 2) := by decide +kernel
theorem dX3_isSame_671 : decode cX3_isSame 671 = .ok (.if_icmp .eq 5, 3) := by decide +kernel
theorem dX3_isSame_674 : decode cX3_isSame 674 = .ok (.iconst 0, 1) := by decide +kernel
theorem dX3_isSame_675 : decode cX3_isSame 675 = .ok (.ireturn, 1) := by decide +kernel
theorem dX3_isSame_676 : decode cX3_isSame 676 = .ok (.iconst 0, 1) := by decide +kernel
theorem dX3_isSame_677 : decode cX3_isSame 677 = .ok (.istore 8, 2) := by decide +kernel
theorem dX3_isSame_679 : decode cX3_isSame 679 = .ok (.iload 8, 2) := by decide +kernel
theorem dX3_isSame_681 : decode cX3_isSame 681 = .ok (.bipush 6, 2) := by decide +kernel
theorem dX3_isSame_683 : decode cX3_isSame 683 = .ok (.if_icmp .ge 32, 3) := by decide +kernel
theorem dX3_isSame_686 : decode cX3_isSame 686 = .ok (.aload_n 1, 1) := by decide +kernel
theorem dX3_isSame_687 : decode cX3_isSame 687 = .ok (.iload 4, 2) := by decide +kernel
theorem dX3_isSame_689 : decode cX3_isSame 689 = .ok (.iload 8, 2) := by decide +kernel
theorem dX3_isSame_691 : decode cX3_isSame 691 = .ok (.invokevirtual 127, 3) := by decide +kernel
theorem dX3_isSame_694 : decode cX3_isSame 694 = .ok (.aload_n 0, 1) := by decide +kernel
theorem dX3_isSame_695 : decode cX3_isSame 695 = .ok (.getfield 31, 3) := by decide +kernel
theorem dX3_isSame_698 : decode cX3_isSame 698 = .ok (.iload 4, 2) := by decide +kernel
theorem dX3_isSame_700 : decode cX3_isSame 700 = .ok (.aaload, 1) := by decide +kernel
theorem dX3_isSame_701 : decode cX3_isSame 701 = .ok (.iload 8, 2) := by decide +kernel
theorem dX3_isSame_703 : decode cX3_isSame 703 = .ok (.baload, 1) := by decide +kernel
theorem dX3_isSame_704 : decode cX3_isSame 704 = .ok (.if_icmp .eq 5, 3) := by decide +kernel
theorem dX3_isSame_707 : decode cX3_isSame 707 = .ok (.iconst 0, 1) := by decide +kernel
theorem dX3_isSame_708 : decode cX3_isSame 708 = .ok (.ireturn, 1) := by decide +kernel
theorem dX3_isSame_709 : decode cX3_isSame 709 = .ok (.iinc 8 1, 3) := by decide +kernel
theorem dX3_isSame_712 : decode cX3_isSame 712 = .ok (.goto (-33), 3) := by decide +kernel
theorem dX3_isSame_715 : decode cX3_isSame 715 = .ok (.iinc 4 1, 3) := by decide +kernel
theorem dX3_isSame_718 : decode cX3_isSame 718 = .ok (.goto (-259), 3) := by decide +kernel
theorem dX3_isSame_721 : decode cX3_isSame 721 = .ok (.aload_n 1, 1) := by decide +kernel
theorem dX3_isSame_722 : decode cX3_isSame 722 = .ok (.invokevirtual 130, 3) := by decide +kernel
theorem dX3_isSame_725 : decode cX3_isSame 725 = .ok (.aload_n 0, 1) := by decide +kernel
theorem dX3_isSame_726 : decode cX3_isSame 726 = .ok (.getfield 35, 3) := by decide +kernel
theorem dX3_isSame_729 : decode cX3_isSame 729 = .ok (.ifCond .ne 7, 3) := by decide +kernel
theorem dX3_isSame_732 : decode cX3_isSame 732 = .ok (.dconst 0, 1) := by decide +kernel
theorem dX3_isSame_733 : decode cX3_isSame 733 = .ok (.goto 11, 3) := by decide +kernel
theorem dX3_isSame_736 : decode cX3_isSame 736 = .ok (.iload_n 2, 1) := by decide +kernel
theorem dX3_isSame_737 : decode cX3_isSame 737 = .ok (.i2d, 1) := by decide +kernel
theorem dX3_isSame_738 : decode cX3_isSame 738 = .ok (.aload_n 0, 1) := by decide +kernel
theorem dX3_isSame_739 : decode cX3_isSame 739 = .ok (.getfield 35, 3) := by decide +kernel
theorem dX3_isSame_742 : decode cX3_isSame 742 = .ok (.i2d, 1) := by decide +kernel
theorem dX3_isSame_743 : decode cX3_isSame 743 = .ok (.ddiv, 1) := by decide +kernel
theorem dX3_isSame_744 : decode cX3_isSame 744 = .ok (.dcmp .l, 1) := by decide +kernel
theorem dX3_isSame_745 : decode cX3_isSame 745 = .ok (.ifCond .ne 7, 3) := by decide +kernel
theorem dX3_isSame_748 : decode cX3_isSame 748 = .ok (.iconst 1, 1) := by decide +kernel
theorem dX3_isSame_749 : decode cX3_isSame 749 = .ok (.goto 4, 3) := by decide +kernel
theorem dX3_isSame_752 : decode cX3_isSame 752 = .ok (.iconst 0, 1) := by decide +kernel
theorem dX3_isSame_753 : decode cX3_isSame 753 = .ok (.ireturn, 1) := by decide +kernel
theorem dJ6_bitCount_0f7a4_0 : decode cJ6_bitCount_0f7a4 0 = .ok (.iload_n 0, 1) := by decide +kernel
theorem dJ6_bitCount_0f7a4_1 : decode cJ6_bitCount_0f7a4 1 = .ok (.iload_n 0, 1) := by decide +kernel
theorem dJ6_bitCount_0f7a4_2 : decode cJ6_bitCount_0f7a4 2 = .ok (.iconst 1, 1) := by decide +kernel
theorem dJ6_bitCount_0f7a4_3 : decode cJ6_bitCount_0f7a4 3 = .ok (.iushr, 1) := by decide +kernel
theorem dJ6_bitCount_0f7a4_4 : decode cJ6_bitCount_0f7a4 4 = .ok (.ldc_w 265, 3) := by decide +kernel
theorem dJ6_bitCount_0f7a4_7 : decode cJ6_bitCount_0f7a4 7 = .ok (.iand, 1) := by decide +kernel
theorem dJ6_bitCount_0f7a4_8 : decode cJ6_bitCount_0f7a4 8 = .ok (.isub, 1) := by decide +kernel
theorem dJ6_bitCount_0f7a4_9 : decode cJ6_bitCount_0f7a4 9 = .ok (.istore_n 0, 1) := by decide +kernel
theorem dJ6_bitCount_0f7a4_10 : decode cJ6_bitCount_0f7a4 10 = .ok (.iload_n 0, 1) := by decide +kernel
theorem dJ6_bitCount_0f7a4_11 : decode cJ6_bitCount_0f7a4 11 = .ok (.ldc_w 266, 3) := by decide +kernel
theorem dJ6_bitCount_0f7a4_14 : decode cJ6_bitCount_0f7a4 14 = .ok (.iand, 1) := by decide +kernel
theorem dJ6_bitCount_0f7a4_15 : decode cJ6_bitCount_0f7a4 15 = .ok (.iload_n 0, 1) := by decide +kernel
theorem dJ6_bitCount_0f7a4_16 : decode cJ6_bitCount_0f7a4 16 = .ok (.iconst 2, 1) := by decide +kernel
theorem dJ6_bitCount_0f7a4_17 : decode cJ6_bitCount_0f7a4 17 = .ok (.iushr, 1) := by decide +kernel
theorem dJ6_bitCount_0f7a4_18 : decode cJ6_bitCount_0f7a4 18 = .ok (.ldc_w 266, 3) := by decide +kernel
theorem dJ6_bitCount_0f7a4_21 : decode cJ6_bitCount_0f7a4 21 = .ok (.iand, 1) := by decide +kernel
theorem dJ6_bitCount_0f7a4_22 : decode cJ6_bitCount_0f7a4 22 = .ok (.iadd, 1) := by decide +kernel
theorem dJ6_bitCount_0f7a4_23 : decode cJ6_bitCount_0f7a4 23 = .ok (.istore_n 0, 1) := by decide +kernel
theorem dJ6_bitCount_0f7a4_24 : decode cJ6_bitCount_0f7a4 24 = .ok (.iload_n 0, 1) := by decide +kernel
theorem dJ6_bitCount_0f7a4_25 : decode cJ6_bitCount_0f7a4 25 = .ok (.iload_n 0, 1) := by decide +kernel
theorem dJ6_bitCount_0f7a4_26 : decode cJ6_bitCount_0f7a4 26 = .ok (.iconst 4, 1) := by decide +kernel
theorem dJ6_bitCount_0f7a4_27 : decode cJ6_bitCount_0f7a4 27 = .ok (.iushr, 1) := by decide +kernel
theorem dJ6_bitCount_0f7a4_28 : decode cJ6_bitCount_0f7a4 28 = .ok (.iadd, 1) := by decide +kernel
theorem dJ6_bitCount_0f7a4_29 : decode cJ6_bitCount_0f7a4 29 = .ok (.ldc_w 267, 3) := by decide +kernel
theorem dJ6_bitCount_0f7a4_32 : decode cJ6_bitCount_0f7a4 32 = .ok (.iand, 1) := by decide +kernel
theorem dJ6_bitCount_0f7a4_33 : decode cJ6_bitCount_0f7a4 33 = .ok (.istore_n 0, 1) := by decide +kernel
theorem dJ6_bitCount_0f7a4_34 : decode cJ6_bitCount_0f7a4 34 = .ok (.iload_n 0, 1) := by decide +kernel
theorem dJ6_bitCount_0f7a4_35 : decode cJ6_bitCount_0f7a4 35 = .ok (.iload_n 0, 1) := by decide +kernel
theorem dJ6_bitCount_0f7a4_36 : decode cJ6_bitCount_0f7a4 36 = .ok (.bipush 8, 2) := by decide +kernel
theorem dJ6_bitCount_0f7a4_38 : decode cJ6_bitCount_0f7a4 38 = .ok (.iushr, 1) := by decide +kernel
theorem dJ6_bitCount_0f7a4_39 : decode cJ6_bitCount_0f7a4 39 = .ok (.iadd, 1) := by decide +kernel
theorem dJ6_bitCount_0f7a4_40 : decode cJ6_bitCount_0f7a4 40 = .ok (.istore_n 0, 1) := by decide +kernel
theorem dJ6_bitCount_0f7a4_41 : decode cJ6_bitCount_0f7a4 41 = .ok (.iload_n 0, 1) := by decide +kernel
theorem dJ6_bitCount_0f7a4_42 : decode cJ6_bitCount_0f7a4 42 = .ok (.iload_n 0, 1) := by decide +kernel
theorem dJ6_bitCount_0f7a4_43 : decode cJ6_bitCount_0f7a4 43 = .ok (.bipush 16, 2) := by decide +kernel
theorem dJ6_bitCount_0f7a4_45 : decode cJ6_bitCount_0f7a4 45 = .ok (.iushr, 1) := by decide +kernel
theorem dJ6_bitCount_0f7a4_46 : decode cJ6_bitCount_0f7a4 46 = .ok (.iadd, 1) := by decide +kernel
theorem dJ6_bitCount_0f7a4_47 : decode cJ6_bitCount_0f7a4 47 = .ok (.istore_n 0, 1) := by decide +kernel
theorem dJ6_bitCount_0f7a4_48 : decode cJ6_bitCount_0f7a4 48 = .ok (.iload_n 0, 1) := by decide +kernel
theorem dJ6_bitCount_0f7a4_49 : decode cJ6_bitCount_0f7a4 49 = .ok (.bipush 63, 2) := by decide +kernel
theorem dJ6_bitCount_0f7a4_51 : decode cJ6_bitCount_0f7a4 51 = .ok (.iand, 1) := by decide +kernel
theorem dJ6_bitCount_0f7a4_52 : decode cJ6_bitCount_0f7a4 52 = .ok (.ireturn, 1) := by decide +kernel
end
section
theorem dL_below_0 : decode cL_below 0 = .ok (.iload_n 0, 1) := by decide +kernel
theorem dL_below_1 : decode cL_below 1 = .ok (.ldc 7, 2) := by decide +kernel
theorem dL_below_3 : decode cL_below 3 = .ok (.iand, 1) := by decide +kernel
theorem dL_below_4 : decode cL_below 4 = .ok (.iload_n 1, 1) := by decide +kernel
theorem dL_below_5 : decode cL_below 5 = .ok (.irem, 1) := by decide +kernel
theorem dL_below_6 : decode cL_below 6 = .ok (.ireturn, 1) := by decide +kernel
theorem dL_cell_0 : decode cL_cell 0 = .ok (.iload_n 1, 1) := by decide +kernel
theorem dL_cell_1 : decode cL_cell 1 = .ok (.aload_n 0, 1) := by decide +kernel
theorem dL_cell_2 : decode cL_cell 2 = .ok (.arraylength, 1) := by decide +kernel
theorem dL_cell_3 : decode cL_cell 3 = .ok (.if_icmp .ge 9, 3) := by decide +kernel
theorem dL_cell_6 : decode cL_cell 6 = .ok (.aload_n 0, 1) := by decide +kernel
theorem dL_cell_7 : decode cL_cell 7 = .ok (.iload_n 1, 1) := by decide +kernel
theorem dL_cell_8 : decode cL_cell 8 = .ok (.iaload, 1) := by decide +kernel
theorem dL_cell_9 : decode cL_cell 9 = .ok (.goto 9, 3) := by decide +kernel
theorem dL_cell_12 : decode cL_cell 12 = .ok (.ldc 8, 2) := by decide +kernel
theorem dL_cell_14 : decode cL_cell 14 = .ok (.iload_n 1, 1) := by decide +kernel
theorem dL_cell_15 : decode cL_cell 15 = .ok (.iconst 3, 1) := by decide +kernel
theorem dL_cell_16 : decode cL_cell 16 = .ok (.iadd, 1) := by decide +kernel
theorem dL_cell_17 : decode cL_cell 17 = .ok (.imul, 1) := by decide +kernel
theorem dL_cell_18 : decode cL_cell 18 = .ok (.ireturn, 1) := by decide +kernel
set_option maxRecDepth 20000 in
theorem ggL_act_L_below : GoodIn wsL_act wsL_below := goodIn_r _ [19, 20] (by decide +kernel) (by decide +kernel)
set_option maxRecDepth 20000 in
theorem gL_act_L_below : GoodIn wsL_act (va_wsS RL 15 yL_below wsL_below) := goodIn_app (goodIn_of _ (by decide +kernel)) ggL_act_L_below
set_option maxRecDepth 20000 in
theorem ggL_act_X2_addFable : GoodIn wsL_act wsX2_addFable := goodIn_ca (goodIn_ca (goodIn_r _ [25, 26, 27, 28, 24, 29, 30, 31, 32, 33, 34, 35, 36, 37, 38, 39, 40, 41, 42, 43, 44, 45, 46, 47, 48, 49, 50, 51, 52, 53, 54, 55, 56, 228, 229, 230, 231, 232, 233, 234, 235, 236, 237, 238] (by decide +kernel) (by decide +kernel)) (goodIn_sub (fun _ h => List.mem_cons_of_mem _ (List.mem_append_left _ (List.mem_append_left _ (List.mem_append_right _ h)))) (by decide +kernel))) (goodIn_sub (fun _ h => List.mem_cons_of_mem _ (List.mem_append_left _ (List.mem_append_right _ h))) (by decide +kernel))
set_option maxRecDepth 20000 in
theorem gL_act_X2_addFable : GoodIn wsL_act (wsV RL 29 RX2 yX2_addFable wsX2_addFable) := goodIn_app (goodIn_of _ (by decide +kernel)) ggL_act_X2_addFable
set_option maxRecDepth 20000 in
theorem ggL_act_X3_hasVariant : GoodIn wsL_act wsX3_hasVariant := goodIn_r _ [61, 62, 63, 219, 220, 221, 222, 223, 224, 225, 226, 227] (by decide +kernel) (by decide +kernel)
set_option maxRecDepth 20000 in
theorem gL_act_X3_hasVariant : GoodIn wsL_act (wsV RL 35 RX3 yX3_hasVariant wsX3_hasVariant) := goodIn_app (goodIn_of _ (by decide +kernel)) ggL_act_X3_hasVariant
set_option maxRecDepth 20000 in
theorem ggL_act_X2_addBeast : GoodIn wsL_act wsX2_addBeast := goodIn_ca (goodIn_ca (goodIn_r _ [67, 42, 43, 26, 68, 69, 70, 71, 72, 24, 73, 30, 31, 44, 32, 33, 34, 74, 75, 76, 77, 78, 79, 80, 81, 82, 83, 84, 85, 86, 228, 229, 230, 231, 232, 233, 234, 235, 236, 237, 238] (by decide +kernel) (by decide +kernel)) (goodIn_sub (fun _ h => List.mem_cons_of_mem _ (List.mem_append_left _ (List.mem_append_right _ h))) (by decide +kernel))) (goodIn_sub (fun _ h => List.mem_cons_of_mem _ (List.mem_append_left _ (List.mem_append_left _ (List.mem_append_right _ h)))) (by decide +kernel))
set_option maxRecDepth 20000 in
theorem gL_act_X2_addBeast : GoodIn wsL_act (wsV RL 39 RX2 yX2_addBeast wsX2_addBeast) := goodIn_app (goodIn_of _ (by decide +kernel)) ggL_act_X2_addBeast
set_option maxRecDepth 20000 in
theorem ggL_act_X3_beastsOf : GoodIn wsL_act wsX3_beastsOf := goodIn_r _ [90, 91, 219, 220, 221, 222, 223, 224, 225, 226, 227] (by decide +kernel) (by decide +kernel)
set_option maxRecDepth 20000 in
theorem gL_act_X3_beastsOf : GoodIn wsL_act (wsV RL 42 RX3 yX3_beastsOf wsX3_beastsOf) := goodIn_app (goodIn_of _ (by decide +kernel)) ggL_act_X3_beastsOf
set_option maxRecDepth 20000 in
theorem ggL_act_X2_addVariant : GoodIn wsL_act wsX2_addVariant := goodIn_ca (goodIn_ca (goodIn_r _ [95, 42, 43, 26, 68, 96, 70, 71, 72, 24, 73, 30, 31, 44, 32, 33, 34, 35, 36, 37, 38, 39, 40, 41, 74, 75, 76, 97, 98, 99, 45, 46, 47, 48, 49, 50, 51, 52, 53, 54, 55, 56, 228, 229, 230, 231, 232, 233, 234, 235, 236, 237, 238] (by decide +kernel) (by decide +kernel)) (goodIn_sub (fun _ h => List.mem_cons_of_mem _ (List.mem_append_left _ (List.mem_append_right _ h))) (by decide +kernel))) (goodIn_sub (fun _ h => List.mem_cons_of_mem _ (List.mem_append_left _ (List.mem_append_left _ (List.mem_append_right _ h)))) (by decide +kernel))
set_option maxRecDepth 20000 in
theorem gL_act_X2_addVariant : GoodIn wsL_act (wsV RL 52 RX2 yX2_addVariant wsX2_addVariant) := goodIn_app (goodIn_of _ (by decide +kernel)) ggL_act_X2_addVariant
set_option maxRecDepth 20000 in
theorem ggL_act_X2_turnPass : GoodIn wsL_act wsX2_turnPass := goodIn_ca (goodIn_ca (goodIn_r _ [103, 104, 105, 106, 107, 35, 36, 24, 37, 30, 31, 108, 109, 110, 111, 112, 113, 98, 99, 74, 75, 76, 228, 229, 230, 231, 239, 240, 241, 242, 243, 244, 245] (by decide +kernel) (by decide +kernel)) (goodIn_sub (fun _ h => List.mem_cons_of_mem _ (List.mem_append_right _ h)) (by decide +kernel))) (goodIn_sub (fun _ h => List.mem_cons_of_mem _ (List.mem_append_left _ (List.mem_append_left _ (List.mem_append_right _ h)))) (by decide +kernel))
set_option maxRecDepth 20000 in
theorem gL_act_X2_turnPass : GoodIn wsL_act (wsV RL 59 RX2 yX2_turnPass wsX2_turnPass) := goodIn_app (goodIn_of _ (by decide +kernel)) ggL_act_X2_turnPass
set_option maxRecDepth 20000 in
theorem ggL_act_X2_turnMoral : GoodIn wsL_act wsX2_turnMoral := goodIn_ca (goodIn_r _ [117, 106, 118, 35, 36, 24, 37, 30, 31, 27, 28, 29, 97, 98, 99, 74, 75, 76, 228, 229, 230, 231, 239, 240, 241, 242, 243, 244, 245] (by decide +kernel) (by decide +kernel)) (goodIn_sub (fun _ h => List.mem_cons_of_mem _ (List.mem_append_left _ (List.mem_append_left _ (List.mem_append_right _ h)))) (by decide +kernel))
set_option maxRecDepth 20000 in
theorem gL_act_X2_turnMoral : GoodIn wsL_act (wsV RL 66 RX2 yX2_turnMoral wsX2_turnMoral) := goodIn_app (goodIn_of _ (by decide +kernel)) ggL_act_X2_turnMoral
set_option maxRecDepth 20000 in
theorem ggL_act_X2_turnBeast : GoodIn wsL_act wsX2_turnBeast := goodIn_ca (goodIn_r _ [122, 106, 123, 35, 36, 24, 37, 30, 31, 32, 33, 34, 97, 98, 99, 74, 75, 76, 228, 229, 230, 231, 239, 240, 241, 242, 243, 244, 245] (by decide +kernel) (by decide +kernel)) (goodIn_sub (fun _ h => List.mem_cons_of_mem _ (List.mem_append_left _ (List.mem_append_left _ (List.mem_append_right _ h)))) (by decide +kernel))
set_option maxRecDepth 20000 in
theorem gL_act_X2_turnBeast : GoodIn wsL_act (wsV RL 72 RX2 yX2_turnBeast wsX2_turnBeast) := goodIn_app (goodIn_of _ (by decide +kernel)) ggL_act_X2_turnBeast
set_option maxRecDepth 20000 in
theorem ggL_act_X3_isBanned : GoodIn wsL_act wsX3_isBanned := goodIn_r _ [127, 128, 63, 91, 129, 219, 220, 221, 222, 223, 224, 225, 226, 227] (by decide +kernel) (by decide +kernel)
set_option maxRecDepth 20000 in
theorem gL_act_X3_isBanned : GoodIn wsL_act (wsV RL 78 RX3 yX3_isBanned wsX3_isBanned) := goodIn_app (goodIn_of _ (by decide +kernel)) ggL_act_X3_isBanned
set_option maxRecDepth 20000 in
theorem ggL_act_X2_tell : GoodIn wsL_act wsX2_tell := goodIn_ca (goodIn_ca (goodIn_r _ [133, 42, 43, 106, 134, 26, 70, 71, 72, 24, 73, 30, 31, 44, 35, 36, 37, 74, 75, 76, 135, 136, 137, 111, 138, 139, 140, 141, 142, 143, 144, 145, 146, 147, 78, 79, 80, 81, 82, 83, 84, 85, 86, 228, 229, 230, 231, 239, 240, 241, 242, 243, 244, 245, 232, 233, 234, 235, 236, 237, 238] (by decide +kernel) (by decide +kernel)) (goodIn_sub (fun _ h => List.mem_cons_of_mem _ (List.mem_append_left _ (List.mem_append_right _ h))) (by decide +kernel))) (goodIn_sub (fun _ h => List.mem_cons_of_mem _ (List.mem_append_left _ (List.mem_append_left _ (List.mem_append_right _ h)))) (by decide +kernel))
set_option maxRecDepth 20000 in
theorem gL_act_X2_tell : GoodIn wsL_act (wsV RL 81 RX2 yX2_tell wsX2_tell) := goodIn_app (goodIn_of _ (by decide +kernel)) ggL_act_X2_tell
set_option maxRecDepth 20000 in
theorem ggL_act_X3_valleys : GoodIn wsL_act wsX3_valleys := goodIn_r _ [151, 152, 219, 220, 221, 222, 223, 224, 225, 226, 227] (by decide +kernel) (by decide +kernel)
set_option maxRecDepth 20000 in
theorem gL_act_X3_valleys : GoodIn wsL_act (wsV RL 84 RX3 yX3_valleys wsX3_valleys) := goodIn_app (goodIn_of _ (by decide +kernel)) ggL_act_X3_valleys
set_option maxRecDepth 20000 in
theorem ggL_act_X2_forget : GoodIn wsL_act wsX2_forget := goodIn_ca (goodIn_ca (goodIn_r _ [156, 42, 43, 106, 134, 70, 71, 72, 24, 73, 30, 31, 26, 44, 35, 36, 37, 74, 75, 76, 97, 98, 99, 143, 144, 145, 111, 146, 147, 78, 79, 80, 81, 82, 83, 84, 85, 86, 228, 229, 230, 231, 239, 240, 241, 242, 243, 244, 245, 232, 233, 234, 235, 236, 237, 238] (by decide +kernel) (by decide +kernel)) (goodIn_sub (fun _ h => List.mem_cons_of_mem _ (List.mem_append_left _ (List.mem_append_right _ h))) (by decide +kernel))) (goodIn_sub (fun _ h => List.mem_cons_of_mem _ (List.mem_append_left _ (List.mem_append_left _ (List.mem_append_right _ h)))) (by decide +kernel))
set_option maxRecDepth 20000 in
theorem gL_act_X2_forget : GoodIn wsL_act (wsV RL 87 RX2 yX2_forget wsX2_forget) := goodIn_app (goodIn_of _ (by decide +kernel)) ggL_act_X2_forget
set_option maxRecDepth 20000 in
theorem ggL_act_X2_passSeasons : GoodIn wsL_act wsX2_passSeasons := goodIn_ca (goodIn_r _ [160, 106, 26, 161, 162, 163, 24, 164, 104, 105, 165, 166, 167, 111, 168, 169, 170, 171, 172, 173, 174, 175, 136, 137, 138, 139, 140, 141, 142, 75, 76, 176, 177, 178, 179, 180, 147, 181, 78, 79, 80, 81, 82, 83, 84, 85, 86, 182, 183, 184, 185, 186, 187, 188, 189, 113, 190, 191, 192, 193, 194, 195, 196, 197, 198, 199, 48, 200, 50, 143, 144, 145, 146, 228, 229, 230, 231, 239, 240, 241, 242, 243, 244, 245, 232, 233, 234, 235, 236, 237, 238] (by decide +kernel) (by decide +kernel)) (goodIn_sub (fun _ h => List.mem_cons_of_mem _ (List.mem_append_right _ h)) (by decide +kernel))
set_option maxRecDepth 20000 in
theorem gL_act_X2_passSeasons : GoodIn wsL_act (wsV RL 90 RX2 yX2_passSeasons wsX2_passSeasons) := goodIn_app (goodIn_of _ (by decide +kernel)) ggL_act_X2_passSeasons
set_option maxRecDepth 20000 in
theorem ggL_act_X3_behind : GoodIn wsL_act wsX3_behind := goodIn_r _ [204, 205, 206, 207, 60, 208, 62, 152, 209, 210, 5, 211, 128, 63, 212, 213, 125, 126, 127, 91, 129, 219, 220, 221, 222, 223, 224, 225, 226, 227] (by decide +kernel) (by decide +kernel)
set_option maxRecDepth 20000 in
theorem gL_act_X3_behind : GoodIn wsL_act (wsV RL 93 RX3 yX3_behind wsX3_behind) := goodIn_app (goodIn_of _ (by decide +kernel)) ggL_act_X3_behind
set_option maxRecDepth 20000 in
theorem ggL_act_X3_tellings : GoodIn wsL_act wsX3_tellings := goodIn_r _ [217, 62, 218, 149, 150, 60, 151, 152, 219, 220, 221, 222, 223, 224, 225, 226, 227] (by decide +kernel) (by decide +kernel)
set_option maxRecDepth 20000 in
theorem gL_act_X3_tellings : GoodIn wsL_act (wsV RL 97 RX3 yX3_tellings wsX3_tellings) := goodIn_app (goodIn_of _ (by decide +kernel)) ggL_act_X3_tellings
theorem dL_act_0 : decode cL_act 0 = .ok (.aload_n 1, 1) := by decide +kernel
theorem dL_act_1 : decode cL_act 1 = .ok (.getfield 9, 3) := by decide +kernel
theorem dL_act_4 : decode cL_act 4 = .ok (.istore_n 3, 1) := by decide +kernel
theorem dL_act_5 : decode cL_act 5 = .ok (.iload_n 2, 1) := by decide +kernel
theorem dL_act_6 : decode cL_act 6 = .ok (.iconst 1, 1) := by decide +kernel
theorem dL_act_7 : decode cL_act 7 = .ok (.ishr, 1) := by decide +kernel
theorem dL_act_8 : decode cL_act 8 = .ok (.bipush 6, 2) := by decide +kernel
theorem dL_act_10 : decode cL_act 10 = .ok (.invokestatic 15, 3) := by decide +kernel
theorem dL_act_13 : decode cL_act 13 = .ok (.istore 4, 2) := by decide +kernel
theorem dL_act_15 : decode cL_act 15 = .ok (.iload_n 2, 1) := by decide +kernel
theorem dL_act_16 : decode cL_act 16 = .ok (.iconst 3, 1) := by decide +kernel
theorem dL_act_17 : decode cL_act 17 = .ok (.ishr, 1) := by decide +kernel
theorem dL_act_18 : decode cL_act 18 = .ok (.bipush 12, 2) := by decide +kernel
theorem dL_act_20 : decode cL_act 20 = .ok (.invokestatic 15, 3) := by decide +kernel
theorem dL_act_23 : decode cL_act 23 = .ok (.istore 5, 2) := by decide +kernel
theorem dL_act_25 : decode cL_act 25 = .ok (.iload_n 2, 1) := by decide +kernel
theorem dL_act_26 : decode cL_act 26 = .ok (.bipush 9, 2) := by decide +kernel
theorem dL_act_28 : decode cL_act 28 = .ok (.ishr, 1) := by decide +kernel
theorem dL_act_29 : decode cL_act 29 = .ok (.bipush 20, 2) := by decide +kernel
theorem dL_act_31 : decode cL_act 31 = .ok (.invokestatic 15, 3) := by decide +kernel
theorem dL_act_34 : decode cL_act 34 = .ok (.istore 6, 2) := by decide +kernel
theorem dL_act_36 : decode cL_act 36 = .ok (.iload_n 3, 1) := by decide +kernel
theorem dL_act_37 : decode cL_act 37 = .ok (.ifCond .eq 9, 3) := by decide +kernel
theorem dL_act_40 : decode cL_act 40 = .ok (.iload 6, 2) := by decide +kernel
theorem dL_act_42 : decode cL_act 42 = .ok (.iconst 2, 1) := by decide +kernel
theorem dL_act_43 : decode cL_act 43 = .ok (.if_icmp .ge 96, 3) := by decide +kernel
theorem dL_act_46 : decode cL_act 46 = .ok (.iload_n 3, 1) := by decide +kernel
theorem dL_act_47 : decode cL_act 47 = .ok (.bipush 20, 2) := by decide +kernel
theorem dL_act_49 : decode cL_act 49 = .ok (.if_icmp .ne 5, 3) := by decide +kernel
theorem dL_act_52 : decode cL_act 52 = .ok (.iconst 1, 1) := by decide +kernel
theorem dL_act_53 : decode cL_act 53 = .ok (.ireturn, 1) := by decide +kernel
theorem dL_act_54 : decode cL_act 54 = .ok (.aload_n 1, 1) := by decide +kernel
theorem dL_act_55 : decode cL_act 55 = .ok (.getfield 21, 3) := by decide +kernel
theorem dL_act_58 : decode cL_act 58 = .ok (.iload_n 3, 1) := by decide +kernel
theorem dL_act_59 : decode cL_act 59 = .ok (.iconst 3, 1) := by decide +kernel
theorem dL_act_60 : decode cL_act 60 = .ok (.newarray .int, 2) := by decide +kernel
theorem dL_act_62 : decode cL_act 62 = .ok (.dup, 1) := by decide +kernel
theorem dL_act_63 : decode cL_act 63 = .ok (.iconst 0, 1) := by decide +kernel
theorem dL_act_64 : decode cL_act 64 = .ok (.iload_n 2, 1) := by decide +kernel
theorem dL_act_65 : decode cL_act 65 = .ok (.iconst 4, 1) := by decide +kernel
theorem dL_act_66 : decode cL_act 66 = .ok (.ishr, 1) := by decide +kernel
theorem dL_act_67 : decode cL_act 67 = .ok (.bipush 10, 2) := by decide +kernel
theorem dL_act_69 : decode cL_act 69 = .ok (.invokestatic 15, 3) := by decide +kernel
theorem dL_act_72 : decode cL_act 72 = .ok (.iastore, 1) := by decide +kernel
theorem dL_act_73 : decode cL_act 73 = .ok (.dup, 1) := by decide +kernel
theorem dL_act_74 : decode cL_act 74 = .ok (.iconst 1, 1) := by decide +kernel
theorem dL_act_75 : decode cL_act 75 = .ok (.iload 4, 2) := by decide +kernel
theorem dL_act_77 : decode cL_act 77 = .ok (.iastore, 1) := by decide +kernel
theorem dL_act_78 : decode cL_act 78 = .ok (.dup, 1) := by decide +kernel
theorem dL_act_79 : decode cL_act 79 = .ok (.iconst 2, 1) := by decide +kernel
theorem dL_act_80 : decode cL_act 80 = .ok (.iconst (-1), 1) := by decide +kernel
theorem dL_act_81 : decode cL_act 81 = .ok (.iastore, 1) := by decide +kernel
theorem dL_act_82 : decode cL_act 82 = .ok (.aastore, 1) := by decide +kernel
theorem dL_act_83 : decode cL_act 83 = .ok (.aload_n 1, 1) := by decide +kernel
theorem dL_act_84 : decode cL_act 84 = .ok (.getfield 25, 3) := by decide +kernel
theorem dL_act_87 : decode cL_act 87 = .ok (.iload_n 3, 1) := by decide +kernel
theorem dL_act_88 : decode cL_act 88 = .ok (.bipush 12, 2) := by decide +kernel
theorem dL_act_90 : decode cL_act 90 = .ok (.newarray .boolean, 2) := by decide +kernel
theorem dL_act_92 : decode cL_act 92 = .ok (.aastore, 1) := by decide +kernel
theorem dL_act_93 : decode cL_act 93 = .ok (.aload_n 1, 1) := by decide +kernel
theorem dL_act_94 : decode cL_act 94 = .ok (.getfield 25, 3) := by decide +kernel
theorem dL_act_97 : decode cL_act 97 = .ok (.iload_n 3, 1) := by decide +kernel
theorem dL_act_98 : decode cL_act 98 = .ok (.aaload, 1) := by decide +kernel
theorem dL_act_99 : decode cL_act 99 = .ok (.iload 5, 2) := by decide +kernel
theorem dL_act_101 : decode cL_act 101 = .ok (.iconst 1, 1) := by decide +kernel
theorem dL_act_102 : decode cL_act 102 = .ok (.bastore, 1) := by decide +kernel
theorem dL_act_103 : decode cL_act 103 = .ok (.aload_n 1, 1) := by decide +kernel
theorem dL_act_104 : decode cL_act 104 = .ok (.dup, 1) := by decide +kernel
theorem dL_act_105 : decode cL_act 105 = .ok (.getfield 9, 3) := by decide +kernel
theorem dL_act_108 : decode cL_act 108 = .ok (.iconst 1, 1) := by decide +kernel
theorem dL_act_109 : decode cL_act 109 = .ok (.iadd, 1) := by decide +kernel
theorem dL_act_110 : decode cL_act 110 = .ok (.putfield 9, 3) := by decide +kernel
theorem dL_act_113 : decode cL_act 113 = .ok (.aload_n 0, 1) := by decide +kernel
theorem dL_act_114 : decode cL_act 114 = .ok (.aload_n 1, 1) := by decide +kernel
theorem dL_act_115 : decode cL_act 115 = .ok (.getfield 21, 3) := by decide +kernel
theorem dL_act_118 : decode cL_act 118 = .ok (.iload_n 3, 1) := by decide +kernel
theorem dL_act_119 : decode cL_act 119 = .ok (.aaload, 1) := by decide +kernel
theorem dL_act_120 : decode cL_act 120 = .ok (.iconst 0, 1) := by decide +kernel
theorem dL_act_121 : decode cL_act 121 = .ok (.iaload, 1) := by decide +kernel
theorem dL_act_122 : decode cL_act 122 = .ok (.iload 5, 2) := by decide +kernel
theorem dL_act_124 : decode cL_act 124 = .ok (.iload 4, 2) := by decide +kernel
theorem dL_act_126 : decode cL_act 126 = .ok (.invokevirtual 29, 3) := by decide +kernel
theorem dL_act_129 : decode cL_act 129 = .ok (.iload_n 3, 1) := by decide +kernel
theorem dL_act_130 : decode cL_act 130 = .ok (.if_icmp .ne 7, 3) := by decide +kernel
theorem dL_act_133 : decode cL_act 133 = .ok (.iconst 1, 1) := by decide +kernel
theorem dL_act_134 : decode cL_act 134 = .ok (.goto 4, 3) := by decide +kernel
theorem dL_act_137 : decode cL_act 137 = .ok (.iconst 0, 1) := by decide +kernel
theorem dL_act_138 : decode cL_act 138 = .ok (.ireturn, 1) := by decide +kernel
theorem dL_act_139 : decode cL_act 139 = .ok (.iload_n 2, 1) := by decide +kernel
theorem dL_act_140 : decode cL_act 140 = .ok (.iconst 2, 1) := by decide +kernel
theorem dL_act_141 : decode cL_act 141 = .ok (.ishr, 1) := by decide +kernel
theorem dL_act_142 : decode cL_act 142 = .ok (.iload_n 3, 1) := by decide +kernel
theorem dL_act_143 : decode cL_act 143 = .ok (.invokestatic 15, 3) := by decide +kernel
theorem dL_act_146 : decode cL_act 146 = .ok (.istore 7, 2) := by decide +kernel
theorem dL_act_148 : decode cL_act 148 = .ok (.iload 6, 2) := by decide +kernel
theorem dL_act_150 : decode cL_act 150 = .ok (.tableswitch 586 2 16 #[74, 74, 132, 132, 132, 277, 277, 277, 357, 422, 422, 477, 477, 477, 537], 74) := by decide +kernel
theorem dL_act_224 : decode cL_act 224 = .ok (.aload_n 1, 1) := by decide +kernel
theorem dL_act_225 : decode cL_act 225 = .ok (.getfield 25, 3) := by decide +kernel
theorem dL_act_228 : decode cL_act 228 = .ok (.iload 7, 2) := by decide +kernel
theorem dL_act_230 : decode cL_act 230 = .ok (.aaload, 1) := by decide +kernel
theorem dL_act_231 : decode cL_act 231 = .ok (.iload 5, 2) := by decide +kernel
theorem dL_act_233 : decode cL_act 233 = .ok (.baload, 1) := by decide +kernel
theorem dL_act_234 : decode cL_act 234 = .ok (.ifCond .ne 12, 3) := by decide +kernel
theorem dL_act_237 : decode cL_act 237 = .ok (.aload_n 1, 1) := by decide +kernel
theorem dL_act_238 : decode cL_act 238 = .ok (.iload 7, 2) := by decide +kernel
theorem dL_act_240 : decode cL_act 240 = .ok (.invokevirtual 35, 3) := by decide +kernel
theorem dL_act_243 : decode cL_act 243 = .ok (.ifCond .eq 5, 3) := by decide +kernel
theorem dL_act_246 : decode cL_act 246 = .ok (.iconst 1, 1) := by decide +kernel
theorem dL_act_247 : decode cL_act 247 = .ok (.ireturn, 1) := by decide +kernel
theorem dL_act_248 : decode cL_act 248 = .ok (.aload_n 1, 1) := by decide +kernel
theorem dL_act_249 : decode cL_act 249 = .ok (.getfield 25, 3) := by decide +kernel
theorem dL_act_252 : decode cL_act 252 = .ok (.iload 7, 2) := by decide +kernel
theorem dL_act_254 : decode cL_act 254 = .ok (.aaload, 1) := by decide +kernel
theorem dL_act_255 : decode cL_act 255 = .ok (.iload 5, 2) := by decide +kernel
theorem dL_act_257 : decode cL_act 257 = .ok (.iconst 1, 1) := by decide +kernel
theorem dL_act_258 : decode cL_act 258 = .ok (.bastore, 1) := by decide +kernel
theorem dL_act_259 : decode cL_act 259 = .ok (.aload_n 0, 1) := by decide +kernel
theorem dL_act_260 : decode cL_act 260 = .ok (.iload 7, 2) := by decide +kernel
theorem dL_act_262 : decode cL_act 262 = .ok (.iload 5, 2) := by decide +kernel
theorem dL_act_264 : decode cL_act 264 = .ok (.invokevirtual 39, 3) := by decide +kernel
theorem dL_act_267 : decode cL_act 267 = .ok (.aload_n 1, 1) := by decide +kernel
theorem dL_act_268 : decode cL_act 268 = .ok (.iload 7, 2) := by decide +kernel
theorem dL_act_270 : decode cL_act 270 = .ok (.invokevirtual 42, 3) := by decide +kernel
theorem dL_act_273 : decode cL_act 273 = .ok (.if_icmp .ne 7, 3) := by decide +kernel
theorem dL_act_276 : decode cL_act 276 = .ok (.iconst 1, 1) := by decide +kernel
theorem dL_act_277 : decode cL_act 277 = .ok (.goto 4, 3) := by decide +kernel
theorem dL_act_280 : decode cL_act 280 = .ok (.iconst 0, 1) := by decide +kernel
theorem dL_act_281 : decode cL_act 281 = .ok (.ireturn, 1) := by decide +kernel
theorem dL_act_282 : decode cL_act 282 = .ok (.iconst 0, 1) := by decide +kernel
theorem dL_act_283 : decode cL_act 283 = .ok (.istore 8, 2) := by decide +kernel
theorem dL_act_285 : decode cL_act 285 = .ok (.aload_n 1, 1) := by decide +kernel
theorem dL_act_286 : decode cL_act 286 = .ok (.getfield 25, 3) := by decide +kernel
theorem dL_act_289 : decode cL_act 289 = .ok (.iload 7, 2) := by decide +kernel
theorem dL_act_291 : decode cL_act 291 = .ok (.aaload, 1) := by decide +kernel
theorem dL_act_292 : decode cL_act 292 = .ok (.iload 8, 2) := by decide +kernel
theorem dL_act_294 : decode cL_act 294 = .ok (.baload, 1) := by decide +kernel
theorem dL_act_295 : decode cL_act 295 = .ok (.ifCond .ne 9, 3) := by decide +kernel
theorem dL_act_298 : decode cL_act 298 = .ok (.iinc 8 1, 3) := by decide +kernel
theorem dL_act_301 : decode cL_act 301 = .ok (.goto (-16), 3) := by decide +kernel
theorem dL_act_304 : decode cL_act 304 = .ok (.iload_n 3, 1) := by decide +kernel
theorem dL_act_305 : decode cL_act 305 = .ok (.bipush 20, 2) := by decide +kernel
theorem dL_act_307 : decode cL_act 307 = .ok (.if_icmp .eq 16, 3) := by decide +kernel
theorem dL_act_310 : decode cL_act 310 = .ok (.aload_n 1, 1) := by decide +kernel
theorem dL_act_311 : decode cL_act 311 = .ok (.getfield 25, 3) := by decide +kernel
theorem dL_act_314 : decode cL_act 314 = .ok (.iload 7, 2) := by decide +kernel
theorem dL_act_316 : decode cL_act 316 = .ok (.aaload, 1) := by decide +kernel
theorem dL_act_317 : decode cL_act 317 = .ok (.iload 5, 2) := by decide +kernel
theorem dL_act_319 : decode cL_act 319 = .ok (.baload, 1) := by decide +kernel
theorem dL_act_320 : decode cL_act 320 = .ok (.ifCond .eq 5, 3) := by decide +kernel
theorem dL_act_323 : decode cL_act 323 = .ok (.iconst 1, 1) := by decide +kernel
theorem dL_act_324 : decode cL_act 324 = .ok (.ireturn, 1) := by decide +kernel
theorem dL_act_325 : decode cL_act 325 = .ok (.aload_n 1, 1) := by decide +kernel
theorem dL_act_326 : decode cL_act 326 = .ok (.getfield 21, 3) := by decide +kernel
theorem dL_act_329 : decode cL_act 329 = .ok (.iload_n 3, 1) := by decide +kernel
theorem dL_act_330 : decode cL_act 330 = .ok (.iconst 3, 1) := by decide +kernel
theorem dL_act_331 : decode cL_act 331 = .ok (.newarray .int, 2) := by decide +kernel
theorem dL_act_333 : decode cL_act 333 = .ok (.dup, 1) := by decide +kernel
theorem dL_act_334 : decode cL_act 334 = .ok (.iconst 0, 1) := by decide +kernel
theorem dL_act_335 : decode cL_act 335 = .ok (.aload_n 1, 1) := by decide +kernel
theorem dL_act_336 : decode cL_act 336 = .ok (.getfield 21, 3) := by decide +kernel
theorem dL_act_339 : decode cL_act 339 = .ok (.iload 7, 2) := by decide +kernel
theorem dL_act_341 : decode cL_act 341 = .ok (.aaload, 1) := by decide +kernel
theorem dL_act_342 : decode cL_act 342 = .ok (.iconst 0, 1) := by decide +kernel
theorem dL_act_343 : decode cL_act 343 = .ok (.iaload, 1) := by decide +kernel
theorem dL_act_344 : decode cL_act 344 = .ok (.iastore, 1) := by decide +kernel
theorem dL_act_345 : decode cL_act 345 = .ok (.dup, 1) := by decide +kernel
theorem dL_act_346 : decode cL_act 346 = .ok (.iconst 1, 1) := by decide +kernel
theorem dL_act_347 : decode cL_act 347 = .ok (.iload 4, 2) := by decide +kernel
theorem dL_act_349 : decode cL_act 349 = .ok (.iastore, 1) := by decide +kernel
theorem dL_act_350 : decode cL_act 350 = .ok (.dup, 1) := by decide +kernel
theorem dL_act_351 : decode cL_act 351 = .ok (.iconst 2, 1) := by decide +kernel
theorem dL_act_352 : decode cL_act 352 = .ok (.iload 7, 2) := by decide +kernel
theorem dL_act_354 : decode cL_act 354 = .ok (.iastore, 1) := by decide +kernel
theorem dL_act_355 : decode cL_act 355 = .ok (.aastore, 1) := by decide +kernel
theorem dL_act_356 : decode cL_act 356 = .ok (.aload_n 1, 1) := by decide +kernel
theorem dL_act_357 : decode cL_act 357 = .ok (.getfield 25, 3) := by decide +kernel
theorem dL_act_360 : decode cL_act 360 = .ok (.iload_n 3, 1) := by decide +kernel
theorem dL_act_361 : decode cL_act 361 = .ok (.aload_n 1, 1) := by decide +kernel
theorem dL_act_362 : decode cL_act 362 = .ok (.getfield 25, 3) := by decide +kernel
theorem dL_act_365 : decode cL_act 365 = .ok (.iload 7, 2) := by decide +kernel
theorem dL_act_367 : decode cL_act 367 = .ok (.aaload, 1) := by decide +kernel
theorem dL_act_368 : decode cL_act 368 = .ok (.invokevirtual 46, 3) := by decide +kernel
theorem dL_act_371 : decode cL_act 371 = .ok (.checkcast 47, 3) := by decide +kernel
theorem dL_act_374 : decode cL_act 374 = .ok (.aastore, 1) := by decide +kernel
theorem dL_act_375 : decode cL_act 375 = .ok (.aload_n 1, 1) := by decide +kernel
theorem dL_act_376 : decode cL_act 376 = .ok (.getfield 25, 3) := by decide +kernel
theorem dL_act_379 : decode cL_act 379 = .ok (.iload_n 3, 1) := by decide +kernel
theorem dL_act_380 : decode cL_act 380 = .ok (.aaload, 1) := by decide +kernel
theorem dL_act_381 : decode cL_act 381 = .ok (.iload 8, 2) := by decide +kernel
theorem dL_act_383 : decode cL_act 383 = .ok (.iconst 0, 1) := by decide +kernel
theorem dL_act_384 : decode cL_act 384 = .ok (.bastore, 1) := by decide +kernel
theorem dL_act_385 : decode cL_act 385 = .ok (.aload_n 1, 1) := by decide +kernel
theorem dL_act_386 : decode cL_act 386 = .ok (.getfield 25, 3) := by decide +kernel
theorem dL_act_389 : decode cL_act 389 = .ok (.iload_n 3, 1) := by decide +kernel
theorem dL_act_390 : decode cL_act 390 = .ok (.aaload, 1) := by decide +kernel
theorem dL_act_391 : decode cL_act 391 = .ok (.iload 5, 2) := by decide +kernel
theorem dL_act_393 : decode cL_act 393 = .ok (.iconst 1, 1) := by decide +kernel
theorem dL_act_394 : decode cL_act 394 = .ok (.bastore, 1) := by decide +kernel
theorem dL_act_395 : decode cL_act 395 = .ok (.aload_n 1, 1) := by decide +kernel
theorem dL_act_396 : decode cL_act 396 = .ok (.dup, 1) := by decide +kernel
theorem dL_act_397 : decode cL_act 397 = .ok (.getfield 9, 3) := by decide +kernel
theorem dL_act_400 : decode cL_act 400 = .ok (.iconst 1, 1) := by decide +kernel
theorem dL_act_401 : decode cL_act 401 = .ok (.iadd, 1) := by decide +kernel
theorem dL_act_402 : decode cL_act 402 = .ok (.putfield 9, 3) := by decide +kernel
theorem dL_act_405 : decode cL_act 405 = .ok (.aload_n 0, 1) := by decide +kernel
theorem dL_act_406 : decode cL_act 406 = .ok (.iload 7, 2) := by decide +kernel
theorem dL_act_408 : decode cL_act 408 = .ok (.iload 8, 2) := by decide +kernel
theorem dL_act_410 : decode cL_act 410 = .ok (.iload 5, 2) := by decide +kernel
theorem dL_act_412 : decode cL_act 412 = .ok (.iload 4, 2) := by decide +kernel
theorem dL_act_414 : decode cL_act 414 = .ok (.invokevirtual 52, 3) := by decide +kernel
theorem dL_act_417 : decode cL_act 417 = .ok (.iload_n 3, 1) := by decide +kernel
theorem dL_act_418 : decode cL_act 418 = .ok (.if_icmp .ne 7, 3) := by decide +kernel
theorem dL_act_421 : decode cL_act 421 = .ok (.iconst 1, 1) := by decide +kernel
theorem dL_act_422 : decode cL_act 422 = .ok (.goto 4, 3) := by decide +kernel
theorem dL_act_425 : decode cL_act 425 = .ok (.iconst 0, 1) := by decide +kernel
theorem dL_act_426 : decode cL_act 426 = .ok (.ireturn, 1) := by decide +kernel
theorem dL_act_427 : decode cL_act 427 = .ok (.iload 4, 2) := by decide +kernel
theorem dL_act_429 : decode cL_act 429 = .ok (.iconst 1, 1) := by decide +kernel
theorem dL_act_430 : decode cL_act 430 = .ok (.iadd, 1) := by decide +kernel
theorem dL_act_431 : decode cL_act 431 = .ok (.iload_n 2, 1) := by decide +kernel
theorem dL_act_432 : decode cL_act 432 = .ok (.iconst 5, 1) := by decide +kernel
theorem dL_act_433 : decode cL_act 433 = .ok (.ishr, 1) := by decide +kernel
theorem dL_act_434 : decode cL_act 434 = .ok (.iconst 5, 1) := by decide +kernel
theorem dL_act_435 : decode cL_act 435 = .ok (.invokestatic 15, 3) := by decide +kernel
theorem dL_act_438 : decode cL_act 438 = .ok (.iadd, 1) := by decide +kernel
theorem dL_act_439 : decode cL_act 439 = .ok (.bipush 6, 2) := by decide +kernel
theorem dL_act_441 : decode cL_act 441 = .ok (.irem, 1) := by decide +kernel
theorem dL_act_442 : decode cL_act 442 = .ok (.istore 9, 2) := by decide +kernel
theorem dL_act_444 : decode cL_act 444 = .ok (.aload_n 1, 1) := by decide +kernel
theorem dL_act_445 : decode cL_act 445 = .ok (.getfield 56, 3) := by decide +kernel
theorem dL_act_448 : decode cL_act 448 = .ok (.iload 4, 2) := by decide +kernel
theorem dL_act_450 : decode cL_act 450 = .ok (.aaload, 1) := by decide +kernel
theorem dL_act_451 : decode cL_act 451 = .ok (.iload 9, 2) := by decide +kernel
theorem dL_act_453 : decode cL_act 453 = .ok (.baload, 1) := by decide +kernel
theorem dL_act_454 : decode cL_act 454 = .ok (.ifCond .ne 7, 3) := by decide +kernel
theorem dL_act_457 : decode cL_act 457 = .ok (.iconst 1, 1) := by decide +kernel
theorem dL_act_458 : decode cL_act 458 = .ok (.goto 4, 3) := by decide +kernel
theorem dL_act_461 : decode cL_act 461 = .ok (.iconst 0, 1) := by decide +kernel
theorem dL_act_462 : decode cL_act 462 = .ok (.istore 10, 2) := by decide +kernel
theorem dL_act_464 : decode cL_act 464 = .ok (.aload_n 1, 1) := by decide +kernel
theorem dL_act_465 : decode cL_act 465 = .ok (.getfield 56, 3) := by decide +kernel
theorem dL_act_468 : decode cL_act 468 = .ok (.iload 4, 2) := by decide +kernel
theorem dL_act_470 : decode cL_act 470 = .ok (.aaload, 1) := by decide +kernel
theorem dL_act_471 : decode cL_act 471 = .ok (.iload 9, 2) := by decide +kernel
theorem dL_act_473 : decode cL_act 473 = .ok (.iload 10, 2) := by decide +kernel
theorem dL_act_475 : decode cL_act 475 = .ok (.bastore, 1) := by decide +kernel
theorem dL_act_476 : decode cL_act 476 = .ok (.aload_n 1, 1) := by decide +kernel
theorem dL_act_477 : decode cL_act 477 = .ok (.getfield 56, 3) := by decide +kernel
theorem dL_act_480 : decode cL_act 480 = .ok (.iload 9, 2) := by decide +kernel
theorem dL_act_482 : decode cL_act 482 = .ok (.aaload, 1) := by decide +kernel
theorem dL_act_483 : decode cL_act 483 = .ok (.iload 4, 2) := by decide +kernel
theorem dL_act_485 : decode cL_act 485 = .ok (.iload 10, 2) := by decide +kernel
theorem dL_act_487 : decode cL_act 487 = .ok (.bastore, 1) := by decide +kernel
theorem dL_act_488 : decode cL_act 488 = .ok (.aload_n 0, 1) := by decide +kernel
theorem dL_act_489 : decode cL_act 489 = .ok (.iload 4, 2) := by decide +kernel
theorem dL_act_491 : decode cL_act 491 = .ok (.iload 9, 2) := by decide +kernel
theorem dL_act_493 : decode cL_act 493 = .ok (.invokevirtual 59, 3) := by decide +kernel
theorem dL_act_496 : decode cL_act 496 = .ok (.iload 10, 2) := by decide +kernel
theorem dL_act_498 : decode cL_act 498 = .ok (.if_icmp .ne 7, 3) := by decide +kernel
theorem dL_act_501 : decode cL_act 501 = .ok (.iconst 1, 1) := by decide +kernel
theorem dL_act_502 : decode cL_act 502 = .ok (.goto 4, 3) := by decide +kernel
theorem dL_act_505 : decode cL_act 505 = .ok (.iconst 0, 1) := by decide +kernel
theorem dL_act_506 : decode cL_act 506 = .ok (.ireturn, 1) := by decide +kernel
theorem dL_act_507 : decode cL_act 507 = .ok (.iload_n 2, 1) := by decide +kernel
theorem dL_act_508 : decode cL_act 508 = .ok (.iconst 4, 1) := by decide +kernel
theorem dL_act_509 : decode cL_act 509 = .ok (.ishr, 1) := by decide +kernel
theorem dL_act_510 : decode cL_act 510 = .ok (.bipush 10, 2) := by decide +kernel
theorem dL_act_512 : decode cL_act 512 = .ok (.invokestatic 15, 3) := by decide +kernel
theorem dL_act_515 : decode cL_act 515 = .ok (.istore 11, 2) := by decide +kernel
theorem dL_act_517 : decode cL_act 517 = .ok (.aload_n 1, 1) := by decide +kernel
theorem dL_act_518 : decode cL_act 518 = .ok (.getfield 63, 3) := by decide +kernel
theorem dL_act_521 : decode cL_act 521 = .ok (.iload 4, 2) := by decide +kernel
theorem dL_act_523 : decode cL_act 523 = .ok (.aaload, 1) := by decide +kernel
theorem dL_act_524 : decode cL_act 524 = .ok (.iload 11, 2) := by decide +kernel
theorem dL_act_526 : decode cL_act 526 = .ok (.aload_n 1, 1) := by decide +kernel
theorem dL_act_527 : decode cL_act 527 = .ok (.getfield 63, 3) := by decide +kernel
theorem dL_act_530 : decode cL_act 530 = .ok (.iload 4, 2) := by decide +kernel
theorem dL_act_532 : decode cL_act 532 = .ok (.aaload, 1) := by decide +kernel
theorem dL_act_533 : decode cL_act 533 = .ok (.iload 11, 2) := by decide +kernel
theorem dL_act_535 : decode cL_act 535 = .ok (.baload, 1) := by decide +kernel
theorem dL_act_536 : decode cL_act 536 = .ok (.ifCond .ne 7, 3) := by decide +kernel
theorem dL_act_539 : decode cL_act 539 = .ok (.iconst 1, 1) := by decide +kernel
theorem dL_act_540 : decode cL_act 540 = .ok (.goto 4, 3) := by decide +kernel
theorem dL_act_543 : decode cL_act 543 = .ok (.iconst 0, 1) := by decide +kernel
theorem dL_act_544 : decode cL_act 544 = .ok (.bastore, 1) := by decide +kernel
theorem dL_act_545 : decode cL_act 545 = .ok (.aload_n 0, 1) := by decide +kernel
theorem dL_act_546 : decode cL_act 546 = .ok (.iload 4, 2) := by decide +kernel
theorem dL_act_548 : decode cL_act 548 = .ok (.iload 11, 2) := by decide +kernel
theorem dL_act_550 : decode cL_act 550 = .ok (.invokevirtual 66, 3) := by decide +kernel
theorem dL_act_553 : decode cL_act 553 = .ok (.aload_n 1, 1) := by decide +kernel
theorem dL_act_554 : decode cL_act 554 = .ok (.getfield 63, 3) := by decide +kernel
theorem dL_act_557 : decode cL_act 557 = .ok (.iload 4, 2) := by decide +kernel
theorem dL_act_559 : decode cL_act 559 = .ok (.aaload, 1) := by decide +kernel
theorem dL_act_560 : decode cL_act 560 = .ok (.iload 11, 2) := by decide +kernel
theorem dL_act_562 : decode cL_act 562 = .ok (.baload, 1) := by decide +kernel
theorem dL_act_563 : decode cL_act 563 = .ok (.if_icmp .ne 7, 3) := by decide +kernel
theorem dL_act_566 : decode cL_act 566 = .ok (.iconst 1, 1) := by decide +kernel
theorem dL_act_567 : decode cL_act 567 = .ok (.goto 4, 3) := by decide +kernel
theorem dL_act_570 : decode cL_act 570 = .ok (.iconst 0, 1) := by decide +kernel
theorem dL_act_571 : decode cL_act 571 = .ok (.ireturn, 1) := by decide +kernel
theorem dL_act_572 : decode cL_act 572 = .ok (.aload_n 1, 1) := by decide +kernel
theorem dL_act_573 : decode cL_act 573 = .ok (.getfield 69, 3) := by decide +kernel
theorem dL_act_576 : decode cL_act 576 = .ok (.iload 4, 2) := by decide +kernel
theorem dL_act_578 : decode cL_act 578 = .ok (.aaload, 1) := by decide +kernel
theorem dL_act_579 : decode cL_act 579 = .ok (.iload 5, 2) := by decide +kernel
theorem dL_act_581 : decode cL_act 581 = .ok (.aload_n 1, 1) := by decide +kernel
theorem dL_act_582 : decode cL_act 582 = .ok (.getfield 69, 3) := by decide +kernel
theorem dL_act_585 : decode cL_act 585 = .ok (.iload 4, 2) := by decide +kernel
theorem dL_act_587 : decode cL_act 587 = .ok (.aaload, 1) := by decide +kernel
theorem dL_act_588 : decode cL_act 588 = .ok (.iload 5, 2) := by decide +kernel
theorem dL_act_590 : decode cL_act 590 = .ok (.baload, 1) := by decide +kernel
theorem dL_act_591 : decode cL_act 591 = .ok (.ifCond .ne 7, 3) := by decide +kernel
theorem dL_act_594 : decode cL_act 594 = .ok (.iconst 1, 1) := by decide +kernel
theorem dL_act_595 : decode cL_act 595 = .ok (.goto 4, 3) := by decide +kernel
theorem dL_act_598 : decode cL_act 598 = .ok (.iconst 0, 1) := by decide +kernel
theorem dL_act_599 : decode cL_act 599 = .ok (.bastore, 1) := by decide +kernel
theorem dL_act_600 : decode cL_act 600 = .ok (.aload_n 0, 1) := by decide +kernel
theorem dL_act_601 : decode cL_act 601 = .ok (.iload 4, 2) := by decide +kernel
theorem dL_act_603 : decode cL_act 603 = .ok (.iload 5, 2) := by decide +kernel
theorem dL_act_605 : decode cL_act 605 = .ok (.invokevirtual 72, 3) := by decide +kernel
theorem dL_act_608 : decode cL_act 608 = .ok (.aload_n 1, 1) := by decide +kernel
theorem dL_act_609 : decode cL_act 609 = .ok (.getfield 69, 3) := by decide +kernel
theorem dL_act_612 : decode cL_act 612 = .ok (.iload 4, 2) := by decide +kernel
theorem dL_act_614 : decode cL_act 614 = .ok (.aaload, 1) := by decide +kernel
theorem dL_act_615 : decode cL_act 615 = .ok (.iload 5, 2) := by decide +kernel
theorem dL_act_617 : decode cL_act 617 = .ok (.baload, 1) := by decide +kernel
theorem dL_act_618 : decode cL_act 618 = .ok (.if_icmp .ne 7, 3) := by decide +kernel
theorem dL_act_621 : decode cL_act 621 = .ok (.iconst 1, 1) := by decide +kernel
theorem dL_act_622 : decode cL_act 622 = .ok (.goto 4, 3) := by decide +kernel
theorem dL_act_625 : decode cL_act 625 = .ok (.iconst 0, 1) := by decide +kernel
theorem dL_act_626 : decode cL_act 626 = .ok (.ireturn, 1) := by decide +kernel
theorem dL_act_627 : decode cL_act 627 = .ok (.aload_n 1, 1) := by decide +kernel
theorem dL_act_628 : decode cL_act 628 = .ok (.getfield 75, 3) := by decide +kernel
theorem dL_act_631 : decode cL_act 631 = .ok (.iload 7, 2) := by decide +kernel
theorem dL_act_633 : decode cL_act 633 = .ok (.aaload, 1) := by decide +kernel
theorem dL_act_634 : decode cL_act 634 = .ok (.iload 4, 2) := by decide +kernel
theorem dL_act_636 : decode cL_act 636 = .ok (.baload, 1) := by decide +kernel
theorem dL_act_637 : decode cL_act 637 = .ok (.ifCond .ne 14, 3) := by decide +kernel
theorem dL_act_640 : decode cL_act 640 = .ok (.aload_n 1, 1) := by decide +kernel
theorem dL_act_641 : decode cL_act 641 = .ok (.iload 7, 2) := by decide +kernel
theorem dL_act_643 : decode cL_act 643 = .ok (.iload 4, 2) := by decide +kernel
theorem dL_act_645 : decode cL_act 645 = .ok (.invokevirtual 78, 3) := by decide +kernel
theorem dL_act_648 : decode cL_act 648 = .ok (.ifCond .eq 5, 3) := by decide +kernel
theorem dL_act_651 : decode cL_act 651 = .ok (.iconst 1, 1) := by decide +kernel
theorem dL_act_652 : decode cL_act 652 = .ok (.ireturn, 1) := by decide +kernel
theorem dL_act_653 : decode cL_act 653 = .ok (.aload_n 1, 1) := by decide +kernel
theorem dL_act_654 : decode cL_act 654 = .ok (.getfield 75, 3) := by decide +kernel
theorem dL_act_657 : decode cL_act 657 = .ok (.iload 7, 2) := by decide +kernel
theorem dL_act_659 : decode cL_act 659 = .ok (.aaload, 1) := by decide +kernel
theorem dL_act_660 : decode cL_act 660 = .ok (.iload 4, 2) := by decide +kernel
theorem dL_act_662 : decode cL_act 662 = .ok (.iconst 1, 1) := by decide +kernel
theorem dL_act_663 : decode cL_act 663 = .ok (.bastore, 1) := by decide +kernel
theorem dL_act_664 : decode cL_act 664 = .ok (.aload_n 0, 1) := by decide +kernel
theorem dL_act_665 : decode cL_act 665 = .ok (.iload 7, 2) := by decide +kernel
theorem dL_act_667 : decode cL_act 667 = .ok (.iload 4, 2) := by decide +kernel
theorem dL_act_669 : decode cL_act 669 = .ok (.invokevirtual 81, 3) := by decide +kernel
theorem dL_act_672 : decode cL_act 672 = .ok (.aload_n 1, 1) := by decide +kernel
theorem dL_act_673 : decode cL_act 673 = .ok (.iload 7, 2) := by decide +kernel
theorem dL_act_675 : decode cL_act 675 = .ok (.invokevirtual 84, 3) := by decide +kernel
theorem dL_act_678 : decode cL_act 678 = .ok (.if_icmp .ne 7, 3) := by decide +kernel
theorem dL_act_681 : decode cL_act 681 = .ok (.iconst 1, 1) := by decide +kernel
theorem dL_act_682 : decode cL_act 682 = .ok (.goto 4, 3) := by decide +kernel
theorem dL_act_685 : decode cL_act 685 = .ok (.iconst 0, 1) := by decide +kernel
theorem dL_act_686 : decode cL_act 686 = .ok (.ireturn, 1) := by decide +kernel
theorem dL_act_687 : decode cL_act 687 = .ok (.aload_n 1, 1) := by decide +kernel
theorem dL_act_688 : decode cL_act 688 = .ok (.getfield 75, 3) := by decide +kernel
theorem dL_act_691 : decode cL_act 691 = .ok (.iload 7, 2) := by decide +kernel
theorem dL_act_693 : decode cL_act 693 = .ok (.aaload, 1) := by decide +kernel
theorem dL_act_694 : decode cL_act 694 = .ok (.iload 4, 2) := by decide +kernel
theorem dL_act_696 : decode cL_act 696 = .ok (.baload, 1) := by decide +kernel
theorem dL_act_697 : decode cL_act 697 = .ok (.ifCond .ne 5, 3) := by decide +kernel
theorem dL_act_700 : decode cL_act 700 = .ok (.iconst 1, 1) := by decide +kernel
theorem dL_act_701 : decode cL_act 701 = .ok (.ireturn, 1) := by decide +kernel
theorem dL_act_702 : decode cL_act 702 = .ok (.aload_n 1, 1) := by decide +kernel
theorem dL_act_703 : decode cL_act 703 = .ok (.getfield 75, 3) := by decide +kernel
theorem dL_act_706 : decode cL_act 706 = .ok (.iload 7, 2) := by decide +kernel
theorem dL_act_708 : decode cL_act 708 = .ok (.aaload, 1) := by decide +kernel
theorem dL_act_709 : decode cL_act 709 = .ok (.iload 4, 2) := by decide +kernel
theorem dL_act_711 : decode cL_act 711 = .ok (.iconst 0, 1) := by decide +kernel
theorem dL_act_712 : decode cL_act 712 = .ok (.bastore, 1) := by decide +kernel
theorem dL_act_713 : decode cL_act 713 = .ok (.aload_n 0, 1) := by decide +kernel
theorem dL_act_714 : decode cL_act 714 = .ok (.iload 7, 2) := by decide +kernel
theorem dL_act_716 : decode cL_act 716 = .ok (.iload 4, 2) := by decide +kernel
theorem dL_act_718 : decode cL_act 718 = .ok (.invokevirtual 87, 3) := by decide +kernel
theorem dL_act_721 : decode cL_act 721 = .ok (.aload_n 1, 1) := by decide +kernel
theorem dL_act_722 : decode cL_act 722 = .ok (.iload 7, 2) := by decide +kernel
theorem dL_act_724 : decode cL_act 724 = .ok (.invokevirtual 84, 3) := by decide +kernel
theorem dL_act_727 : decode cL_act 727 = .ok (.if_icmp .ne 7, 3) := by decide +kernel
theorem dL_act_730 : decode cL_act 730 = .ok (.iconst 1, 1) := by decide +kernel
theorem dL_act_731 : decode cL_act 731 = .ok (.goto 4, 3) := by decide +kernel
theorem dL_act_734 : decode cL_act 734 = .ok (.iconst 0, 1) := by decide +kernel
theorem dL_act_735 : decode cL_act 735 = .ok (.ireturn, 1) := by decide +kernel
theorem dL_act_736 : decode cL_act 736 = .ok (.iconst 1, 1) := by decide +kernel
theorem dL_act_737 : decode cL_act 737 = .ok (.iload_n 2, 1) := by decide +kernel
theorem dL_act_738 : decode cL_act 738 = .ok (.iconst 4, 1) := by decide +kernel
theorem dL_act_739 : decode cL_act 739 = .ok (.ishr, 1) := by decide +kernel
theorem dL_act_740 : decode cL_act 740 = .ok (.iconst 3, 1) := by decide +kernel
theorem dL_act_741 : decode cL_act 741 = .ok (.invokestatic 15, 3) := by decide +kernel
theorem dL_act_744 : decode cL_act 744 = .ok (.iadd, 1) := by decide +kernel
theorem dL_act_745 : decode cL_act 745 = .ok (.istore 12, 2) := by decide +kernel
theorem dL_act_747 : decode cL_act 747 = .ok (.aload_n 0, 1) := by decide +kernel
theorem dL_act_748 : decode cL_act 748 = .ok (.iload 12, 2) := by decide +kernel
theorem dL_act_750 : decode cL_act 750 = .ok (.invokevirtual 90, 3) := by decide +kernel
theorem dL_act_753 : decode cL_act 753 = .ok (.aload_n 1, 1) := by decide +kernel
theorem dL_act_754 : decode cL_act 754 = .ok (.iload 12, 2) := by decide +kernel
theorem dL_act_756 : decode cL_act 756 = .ok (.invokevirtual 93, 3) := by decide +kernel
theorem dL_act_759 : decode cL_act 759 = .ok (.invokevirtual 97, 3) := by decide +kernel
theorem dL_act_762 : decode cL_act 762 = .ok (.if_icmp .ne 7, 3) := by decide +kernel
theorem dL_act_765 : decode cL_act 765 = .ok (.iconst 1, 1) := by decide +kernel
theorem dL_act_766 : decode cL_act 766 = .ok (.goto 4, 3) := by decide +kernel
theorem dL_act_769 : decode cL_act 769 = .ok (.iconst 0, 1) := by decide +kernel
theorem dL_act_770 : decode cL_act 770 = .ok (.ireturn, 1) := by decide +kernel
end
section

section ZLIB
variable {p : Program} {l : Launch} {e : Env} {R : Room} {s : State} {m : MethodId} {args : Array Value} {below : List Frame} {meth : Method} {c : Code} {D : va_G} {nL : Nat} {G A : Nat → Prop} {Q : State → Prop} {ws : va_W} {lv : List (Nat × Value)} {cells slots pc : Nat} {st : List Value} {cc : ByteArray} {ret : Option FieldType} {Ts : List Cond} {own : String} {tys : List (ClassId × FieldType)}
/-- what holds at a method's start, beside its own cells: the classes, the links of nest mates, the classes of the arrays of arrays -/
def z_nests : List (String × Nat × MethodName × String) := [("FableIndex$Land", 57, ⟨"FableIndex", "size", "(I)I"⟩, "FableIndex"), ("FableIndex$Book", 34, ⟨"FableIndex", "has", "(II)Z"⟩, "FableIndex"), ("FableIndex$Land", 43, ⟨"FableIndex", "has", "(II)Z"⟩, "FableIndex"), ("FableIndex$Land", 34, ⟨"FableIndex", "turned", "(II)I"⟩, "FableIndex"), ("FableIndex$Land", 82, ⟨"FableIndex", "smallestAlone", "(I)I"⟩, "FableIndex"), ("FableIndexLaw", 101, ⟨"FableIndexLaw$Sim", "<init>", "()V"⟩, "FableIndexLaw")]
def z_E (l : Launch) (G : Nat → Prop) (D : va_G) (tys : List (ClassId × FieldType)) (U : State) : Prop :=
  va_K D vwCl tys U ∧ True ∧ (∀ q : Nat, U.heap.size ≤ q → G q) ∧ (∀ q ∈ z_nests, va_Nw (.methodLinkNest q.1 q.2.1 q.2.2.1 q.2.2.2) U) ∧ va_AOA .boolean U ∧ va_AOA .int U ∧ va_Nw (.castable "[Z" "java/lang/Cloneable") U
theorem z_E.step {U t : State} (h : z_E l G D tys U) (hW : U.WarmedH t.vm) (hsz : U.heap.size ≤ t.heap.size) (hk : ∀ q, q < U.heap.size → ¬ G q → t.heap[q]? = U.heap[q]?) : z_E l G D tys t := by
  obtain ⟨h1, h0, h2, h3, h4, h5, h6⟩ := h
  exact ⟨va_K.moved hW.alike h1, h0, fun q hq => h2 q (Nat.le_trans hsz hq), fun q hq => va_Nw.warmM hW (h3 q hq), va_AOA.moved hW.alike h4, va_AOA.moved hW.alike h5, va_Nw.warmC hW h6⟩
theorem z_E.calling {U : State} (h : z_E l G D tys U) (g : JFrame) (mk : MethodId) (a : Array Value) : z_E l G D tys (U.calling g mk a) := h.step (State.WarmedH.refl U) (Nat.le_refl _) (fun _ _ _ => rfl)
/-- the machine, the method and its words, the classes: what stays all through a method -/
def z_K (p : Program) (l : Launch) (s : State) (m : MethodId) (args : Array Value) (meth : Method) (c : Code) (G A : Nat → Prop) (D : va_G) (tys : List (ClassId × FieldType)) (cc : ByteArray) (nL : Nat) (ret : Option FieldType) (Ts : List Cond) (own : String) : Prop :=
  p.tables.exec = Jvm.exec ∧ c.code = cc ∧ c.maxLocals = nL ∧ s.vm.findClass own = some m.cls ∧ (∀ w ∈ Ts, w.before args s = true) ∧ va_K D vwCl tys s ∧ meth.sig.returnType = ret ∧ meth.locks = false ∧ z_E l G D tys s ∧ (∀ q, A q → G q) ∧ (∀ q : Nat, s.heap.size ≤ q → A q)
/-- the machine comes to Q from every heap that holds the cells ws, at pc, with locals lv and stack st -/
def Z (p : Program) (l : Launch) (e : Env) (R : Room) (s : State) (m : MethodId) (args : Array Value) (below : List Frame) (meth : Method) (c : Code) (D : va_G) (nL : Nat) (G A : Nat → Prop) (Q : State → Prop) (ws : va_W) (lv : List (Nat × Value)) (cells slots pc : Nat) (st : List Value) : Prop :=
  ∀ (H : Heap) (locs : List Loc) (ls : Array Slot), va_P D vwCl ws H → va_D G ws → va_S A s.heap H locs → lv_has ls nL lv → W p l e R s m args below meth c H locs cells slots Q (F0 m pc ls st)
theorem z_lv {lv' : List (Nat × Value)} (ks : List Nat) (h : lv_pick lv ks = lv') (k : Z p l e R s m args below meth c D nL G A Q ws lv' cells slots pc st) : Z p l e R s m args below meth c D nL G A Q ws lv cells slots pc st := fun H locs ls hP hD hS hl => k H locs ls hP hD hS (lv_sub hl ks h)
theorem z_widen {k n : Nat} (h1 : cells ≤ k) (h2 : slots ≤ n) (kk : Z p l e R s m args below meth c D nL G A Q ws lv k n pc st) : Z p l e R s m args below meth c D nL G A Q ws lv cells slots pc st := fun H locs ls hP hD hS hl => W.widen h1 h2 (kk H locs ls hP hD hS hl)
theorem z_sub {ws' : va_W} (is : List Nat) (hn : va_nd is = true) (h : is.map (fun i => ws[i]?) = ws'.map some) (k : Z p l e R s m args below meth c D nL G A Q ws' lv cells slots pc st) : Z p l e R s m args below meth c D nL G A Q ws lv cells slots pc st := fun H locs ls hP hD hS hl => k H locs ls (hP.sub is (by
  have : is.filterMap (fun i => ws[i]?) = (is.map (fun i => ws[i]?)).filterMap id := by rw [List.filterMap_map]; rfl
  rw [this, h, List.filterMap_map]; exact List.filterMap_some)) (hD.sub is hn h) hS hl

theorem z_iconst (K : z_K p l s m args meth c G A D tys cc nL ret Ts own) {n : Int} {v : Int32} (hdg : decode cc pc = .ok (.iconst n, 1)) (hv : Int32.ofInt n = v) (kk : Z p l e R s m args below meth c D nL G A Q ws lv cells slots (pc + 1) (.int v :: st)) : Z p l e R s m args below meth c D nL G A Q ws lv cells slots pc st := fun H locs ls hP hD hS hl => lv_iconst K.1 K.2.1 hdg hv (kk H locs ls hP hD hS hl)
theorem z_bipush (K : z_K p l s m args meth c G A D tys cc nL ret Ts own) {n : Int} {v : Int32} (hdg : decode cc pc = .ok (.bipush n, 2)) (hv : (Int8.ofInt n).toInt32 = v) (kk : Z p l e R s m args below meth c D nL G A Q ws lv cells slots (pc + 2) (.int v :: st)) : Z p l e R s m args below meth c D nL G A Q ws lv cells slots pc st := fun H locs ls hP hD hS hl => lv_bipush K.1 K.2.1 hdg hv (kk H locs ls hP hD hS hl)
theorem z_lconst (K : z_K p l s m args meth c G A D tys cc nL ret Ts own) {n : Fin 2} {v : Int64} (hdg : decode cc pc = .ok (.lconst n, 1)) (hv : Int64.ofNat (n : Nat) = v) (kk : Z p l e R s m args below meth c D nL G A Q ws lv cells slots (pc + 1) (.long v :: st)) : Z p l e R s m args below meth c D nL G A Q ws lv cells slots pc st := fun H locs ls hP hD hS hl => lv_lconst K.1 K.2.1 hdg hv (kk H locs ls hP hD hS hl)
theorem z_ldc (K : z_K p l s m args meth c G A D tys cc nL ret Ts own) {index : Nat} {v : Int32} (hdg : decode cc pc = .ok (.ldc index, 2)) (hw : Cond.constant own index v ∈ Ts) (kk : Z p l e R s m args below meth c D nL G A Q ws lv cells slots (pc + 2) (.int v :: st)) : Z p l e R s m args below meth c D nL G A Q ws lv cells slots pc st := fun H locs ls hP hD hS hl => lv_ldc K.1 K.2.1 K.2.2.2.1 (K.2.2.2.2.1 _ hw) hdg (kk H locs ls hP hD hS hl)
theorem z_ldcw (K : z_K p l s m args meth c G A D tys cc nL ret Ts own) {index : Nat} {v : Int32} (hdg : decode cc pc = .ok (.ldc_w index, 3)) (hw : Cond.constant own index v ∈ Ts) (kk : Z p l e R s m args below meth c D nL G A Q ws lv cells slots (pc + 3) (.int v :: st)) : Z p l e R s m args below meth c D nL G A Q ws lv cells slots pc st := fun H locs ls hP hD hS hl => lv_ldcw K.1 K.2.1 K.2.2.2.1 (K.2.2.2.2.1 _ hw) hdg (kk H locs ls hP hD hS hl)
theorem z_ldc2 (K : z_K p l s m args meth c G A D tys cc nL ret Ts own) {index : Nat} {v : Int64} (hdg : decode cc pc = .ok (.ldc2_w index, 3)) (hw : Cond.constantLong own index v ∈ Ts) (kk : Z p l e R s m args below meth c D nL G A Q ws lv cells slots (pc + 3) (.long v :: st)) : Z p l e R s m args below meth c D nL G A Q ws lv cells slots pc st := fun H locs ls hP hD hS hl => lv_ldc2 K.1 K.2.1 K.2.2.2.1 (K.2.2.2.2.1 _ hw) hdg (kk H locs ls hP hD hS hl)
theorem z_iload_n (K : z_K p l s m args meth c G A D tys cc nL ret Ts own) (j : Nat) {k : Fin 4} {x : Int32} (hdg : decode cc pc = .ok (.iload_n k, 1)) (hv : lv[j]? = some ((k : Nat), .int x)) (kk : Z p l e R s m args below meth c D nL G A Q ws lv cells slots (pc + 1) (.int x :: st)) : Z p l e R s m args below meth c D nL G A Q ws lv cells slots pc st := fun H locs ls hP hD hS hl => lv_iload_n K.1 K.2.1 hdg rfl (lv_at hl j hv) (kk H locs ls hP hD hS hl)
theorem z_iload (K : z_K p l s m args meth c G A D tys cc nL ret Ts own) (j : Nat) {i : Nat} {x : Int32} (hdg : decode cc pc = .ok (.iload i, 2)) (hv : lv[j]? = some (i, .int x)) (kk : Z p l e R s m args below meth c D nL G A Q ws lv cells slots (pc + 2) (.int x :: st)) : Z p l e R s m args below meth c D nL G A Q ws lv cells slots pc st := fun H locs ls hP hD hS hl => lv_iload K.1 K.2.1 hdg (lv_at hl j hv) (kk H locs ls hP hD hS hl)
theorem z_lload_n (K : z_K p l s m args meth c G A D tys cc nL ret Ts own) (j : Nat) {k : Fin 4} {x : Int64} (hdg : decode cc pc = .ok (.lload_n k, 1)) (hv : lv[j]? = some ((k : Nat), .long x)) (kk : Z p l e R s m args below meth c D nL G A Q ws lv cells slots (pc + 1) (.long x :: st)) : Z p l e R s m args below meth c D nL G A Q ws lv cells slots pc st := fun H locs ls hP hD hS hl => lv_lload_n K.1 K.2.1 hdg rfl (lv_at hl j hv) (kk H locs ls hP hD hS hl)
theorem z_lload (K : z_K p l s m args meth c G A D tys cc nL ret Ts own) (j : Nat) {i : Nat} {x : Int64} (hdg : decode cc pc = .ok (.lload i, 2)) (hv : lv[j]? = some (i, .long x)) (kk : Z p l e R s m args below meth c D nL G A Q ws lv cells slots (pc + 2) (.long x :: st)) : Z p l e R s m args below meth c D nL G A Q ws lv cells slots pc st := fun H locs ls hP hD hS hl => lv_lload K.1 K.2.1 hdg (lv_at hl j hv) (kk H locs ls hP hD hS hl)
theorem z_dload_n (K : z_K p l s m args meth c G A D tys cc nL ret Ts own) (j : Nat) {k : Fin 4} {x : UInt64} (hdg : decode cc pc = .ok (.dload_n k, 1)) (hv : lv[j]? = some ((k : Nat), .double x)) (kk : Z p l e R s m args below meth c D nL G A Q ws lv cells slots (pc + 1) (.double x :: st)) : Z p l e R s m args below meth c D nL G A Q ws lv cells slots pc st := fun H locs ls hP hD hS hl => lv_dload_n K.1 K.2.1 hdg rfl (lv_at hl j hv) (kk H locs ls hP hD hS hl)
theorem z_dload (K : z_K p l s m args meth c G A D tys cc nL ret Ts own) (j : Nat) {i : Nat} {x : UInt64} (hdg : decode cc pc = .ok (.dload i, 2)) (hv : lv[j]? = some (i, .double x)) (kk : Z p l e R s m args below meth c D nL G A Q ws lv cells slots (pc + 2) (.double x :: st)) : Z p l e R s m args below meth c D nL G A Q ws lv cells slots pc st := fun H locs ls hP hD hS hl => lv_dload K.1 K.2.1 hdg (lv_at hl j hv) (kk H locs ls hP hD hS hl)
theorem z_aload_n (K : z_K p l s m args meth c G A D tys cc nL ret Ts own) (j : Nat) {k : Fin 4} {x : Nat} (hdg : decode cc pc = .ok (.aload_n k, 1)) (hv : lv[j]? = some ((k : Nat), .ref x)) (kk : Z p l e R s m args below meth c D nL G A Q ws lv cells slots (pc + 1) (.ref x :: st)) : Z p l e R s m args below meth c D nL G A Q ws lv cells slots pc st := fun H locs ls hP hD hS hl => lv_aload_n K.1 K.2.1 hdg rfl (lv_at hl j hv) (kk H locs ls hP hD hS hl)
theorem z_aload (K : z_K p l s m args meth c G A D tys cc nL ret Ts own) (j : Nat) {i : Nat} {x : Nat} (hdg : decode cc pc = .ok (.aload i, 2)) (hv : lv[j]? = some (i, .ref x)) (kk : Z p l e R s m args below meth c D nL G A Q ws lv cells slots (pc + 2) (.ref x :: st)) : Z p l e R s m args below meth c D nL G A Q ws lv cells slots pc st := fun H locs ls hP hD hS hl => lv_aload K.1 K.2.1 hdg (lv_at hl j hv) (kk H locs ls hP hD hS hl)
theorem z_istore_n (K : z_K p l s m args meth c G A D tys cc nL ret Ts own) {k : Fin 4} {x : Int32} {lv' : List (Nat × Value)} (hdg : decode cc pc = .ok (.istore_n k, 1)) (hn : (k : Nat) < nL) (hf : ((k : Nat), Value.int x) :: lv.filter (fun q => !(q.1 == (k : Nat)) && !(q.1 + 1 == (k : Nat) && q.2.category == 2)) = lv') (kk : Z p l e R s m args below meth c D nL G A Q ws lv' cells slots (pc + 1) st) : Z p l e R s m args below meth c D nL G A Q ws lv cells slots pc (.int x :: st) := fun H locs ls hP hD hS hl => lv_istore_n K.1 K.2.1 hdg rfl hl hn hf (fun ls9 h9 => kk H locs ls9 hP hD hS h9)
theorem z_istore (K : z_K p l s m args meth c G A D tys cc nL ret Ts own) {i : Nat} {x : Int32} {lv' : List (Nat × Value)} (hdg : decode cc pc = .ok (.istore i, 2)) (hn : i < nL) (hf : (i, Value.int x) :: lv.filter (fun q => !(q.1 == i) && !(q.1 + 1 == i && q.2.category == 2)) = lv') (kk : Z p l e R s m args below meth c D nL G A Q ws lv' cells slots (pc + 2) st) : Z p l e R s m args below meth c D nL G A Q ws lv cells slots pc (.int x :: st) := fun H locs ls hP hD hS hl => lv_istore K.1 K.2.1 hdg hl hn hf (fun ls9 h9 => kk H locs ls9 hP hD hS h9)
theorem z_lstore_n (K : z_K p l s m args meth c G A D tys cc nL ret Ts own) {k : Fin 4} {x : Int64} {lv' : List (Nat × Value)} (hdg : decode cc pc = .ok (.lstore_n k, 1)) (hn : (k : Nat) + 1 < nL) (hf : ((k : Nat), Value.long x) :: lv.filter (fun q => !(q.1 == (k : Nat)) && (!(q.1 == (k : Nat) + 1) && !(q.1 + 1 == (k : Nat) && q.2.category == 2))) = lv') (kk : Z p l e R s m args below meth c D nL G A Q ws lv' cells slots (pc + 1) st) : Z p l e R s m args below meth c D nL G A Q ws lv cells slots pc (.long x :: st) := fun H locs ls hP hD hS hl => lv_lstore_n K.1 K.2.1 hdg rfl hl hn hf (fun ls9 h9 => kk H locs ls9 hP hD hS h9)
theorem z_lstore (K : z_K p l s m args meth c G A D tys cc nL ret Ts own) {i : Nat} {x : Int64} {lv' : List (Nat × Value)} (hdg : decode cc pc = .ok (.lstore i, 2)) (hn : i + 1 < nL) (hf : (i, Value.long x) :: lv.filter (fun q => !(q.1 == i) && (!(q.1 == i + 1) && !(q.1 + 1 == i && q.2.category == 2))) = lv') (kk : Z p l e R s m args below meth c D nL G A Q ws lv' cells slots (pc + 2) st) : Z p l e R s m args below meth c D nL G A Q ws lv cells slots pc (.long x :: st) := fun H locs ls hP hD hS hl => lv_lstore K.1 K.2.1 hdg hl hn hf (fun ls9 h9 => kk H locs ls9 hP hD hS h9)
theorem z_dstore_n (K : z_K p l s m args meth c G A D tys cc nL ret Ts own) {k : Fin 4} {x : UInt64} {lv' : List (Nat × Value)} (hdg : decode cc pc = .ok (.dstore_n k, 1)) (hn : (k : Nat) + 1 < nL) (hf : ((k : Nat), Value.double x) :: lv.filter (fun q => !(q.1 == (k : Nat)) && (!(q.1 == (k : Nat) + 1) && !(q.1 + 1 == (k : Nat) && q.2.category == 2))) = lv') (kk : Z p l e R s m args below meth c D nL G A Q ws lv' cells slots (pc + 1) st) : Z p l e R s m args below meth c D nL G A Q ws lv cells slots pc (.double x :: st) := fun H locs ls hP hD hS hl => lv_dstore_n K.1 K.2.1 hdg rfl hl hn hf (fun ls9 h9 => kk H locs ls9 hP hD hS h9)
theorem z_dstore (K : z_K p l s m args meth c G A D tys cc nL ret Ts own) {i : Nat} {x : UInt64} {lv' : List (Nat × Value)} (hdg : decode cc pc = .ok (.dstore i, 2)) (hn : i + 1 < nL) (hf : (i, Value.double x) :: lv.filter (fun q => !(q.1 == i) && (!(q.1 == i + 1) && !(q.1 + 1 == i && q.2.category == 2))) = lv') (kk : Z p l e R s m args below meth c D nL G A Q ws lv' cells slots (pc + 2) st) : Z p l e R s m args below meth c D nL G A Q ws lv cells slots pc (.double x :: st) := fun H locs ls hP hD hS hl => lv_dstore K.1 K.2.1 hdg hl hn hf (fun ls9 h9 => kk H locs ls9 hP hD hS h9)
theorem z_astore_n (K : z_K p l s m args meth c G A D tys cc nL ret Ts own) {k : Fin 4} {x : Nat} {lv' : List (Nat × Value)} (hdg : decode cc pc = .ok (.astore_n k, 1)) (hn : (k : Nat) < nL) (hf : ((k : Nat), Value.ref x) :: lv.filter (fun q => !(q.1 == (k : Nat)) && !(q.1 + 1 == (k : Nat) && q.2.category == 2)) = lv') (kk : Z p l e R s m args below meth c D nL G A Q ws lv' cells slots (pc + 1) st) : Z p l e R s m args below meth c D nL G A Q ws lv cells slots pc (.ref x :: st) := fun H locs ls hP hD hS hl => lv_astore_n K.1 K.2.1 hdg rfl hl hn hf (fun ls9 h9 => kk H locs ls9 hP hD hS h9)
theorem z_astore (K : z_K p l s m args meth c G A D tys cc nL ret Ts own) {i : Nat} {x : Nat} {lv' : List (Nat × Value)} (hdg : decode cc pc = .ok (.astore i, 2)) (hn : i < nL) (hf : (i, Value.ref x) :: lv.filter (fun q => !(q.1 == i) && !(q.1 + 1 == i && q.2.category == 2)) = lv') (kk : Z p l e R s m args below meth c D nL G A Q ws lv' cells slots (pc + 2) st) : Z p l e R s m args below meth c D nL G A Q ws lv cells slots pc (.ref x :: st) := fun H locs ls hP hD hS hl => lv_astore K.1 K.2.1 hdg hl hn hf (fun ls9 h9 => kk H locs ls9 hP hD hS h9)
theorem z_iinc (K : z_K p l s m args meth c G A D tys cc nL ret Ts own) (j : Nat) {i : Nat} {n : Int} {x v : Int32} {lv' : List (Nat × Value)} (hdg : decode cc pc = .ok (.iinc i n, 3)) (hv : lv[j]? = some (i, .int x)) (hx : x + Int32.ofInt n = v) (hn : i < nL) (hf : (i, Value.int v) :: lv.filter (fun q => !(q.1 == i) && !(q.1 + 1 == i && q.2.category == 2)) = lv') (kk : Z p l e R s m args below meth c D nL G A Q ws lv' cells slots (pc + 3) st) : Z p l e R s m args below meth c D nL G A Q ws lv cells slots pc st := fun H locs ls hP hD hS hl => lv_iinc K.1 K.2.1 hdg hl (k := j) hv hx hn hf (fun ls9 h9 => kk H locs ls9 hP hD hS h9)
theorem z_iadd (K : z_K p l s m args meth c G A D tys cc nL ret Ts own) {x y : Int32} (hdg : decode cc pc = .ok (.iadd, 1)) (kk : Z p l e R s m args below meth c D nL G A Q ws lv cells slots (pc + 1) (.int (x + y) :: st)) : Z p l e R s m args below meth c D nL G A Q ws lv cells slots pc (.int y :: .int x :: st) := fun H locs ls hP hD hS hl => lv_iadd K.1 K.2.1 hdg (kk H locs ls hP hD hS hl)
theorem z_isub (K : z_K p l s m args meth c G A D tys cc nL ret Ts own) {x y : Int32} (hdg : decode cc pc = .ok (.isub, 1)) (kk : Z p l e R s m args below meth c D nL G A Q ws lv cells slots (pc + 1) (.int (x - y) :: st)) : Z p l e R s m args below meth c D nL G A Q ws lv cells slots pc (.int y :: .int x :: st) := fun H locs ls hP hD hS hl => lv_isub K.1 K.2.1 hdg (kk H locs ls hP hD hS hl)
theorem z_imul (K : z_K p l s m args meth c G A D tys cc nL ret Ts own) {x y : Int32} (hdg : decode cc pc = .ok (.imul, 1)) (kk : Z p l e R s m args below meth c D nL G A Q ws lv cells slots (pc + 1) (.int (x * y) :: st)) : Z p l e R s m args below meth c D nL G A Q ws lv cells slots pc (.int y :: .int x :: st) := fun H locs ls hP hD hS hl => lv_imul K.1 K.2.1 hdg (kk H locs ls hP hD hS hl)
theorem z_ior (K : z_K p l s m args meth c G A D tys cc nL ret Ts own) {x y : Int32} (hdg : decode cc pc = .ok (.ior, 1)) (kk : Z p l e R s m args below meth c D nL G A Q ws lv cells slots (pc + 1) (.int (x ||| y) :: st)) : Z p l e R s m args below meth c D nL G A Q ws lv cells slots pc (.int y :: .int x :: st) := fun H locs ls hP hD hS hl => lv_ior K.1 K.2.1 hdg (kk H locs ls hP hD hS hl)
theorem z_iand (K : z_K p l s m args meth c G A D tys cc nL ret Ts own) {x y : Int32} (hdg : decode cc pc = .ok (.iand, 1)) (kk : Z p l e R s m args below meth c D nL G A Q ws lv cells slots (pc + 1) (.int (x &&& y) :: st)) : Z p l e R s m args below meth c D nL G A Q ws lv cells slots pc (.int y :: .int x :: st) := fun H locs ls hP hD hS hl => lv_iand K.1 K.2.1 hdg (kk H locs ls hP hD hS hl)
theorem z_ixor (K : z_K p l s m args meth c G A D tys cc nL ret Ts own) {x y : Int32} (hdg : decode cc pc = .ok (.ixor, 1)) (kk : Z p l e R s m args below meth c D nL G A Q ws lv cells slots (pc + 1) (.int (x ^^^ y) :: st)) : Z p l e R s m args below meth c D nL G A Q ws lv cells slots pc (.int y :: .int x :: st) := fun H locs ls hP hD hS hl => lv_ixor K.1 K.2.1 hdg (kk H locs ls hP hD hS hl)
theorem z_ishl (K : z_K p l s m args meth c G A D tys cc nL ret Ts own) {x y : Int32} (hdg : decode cc pc = .ok (.ishl, 1)) (kk : Z p l e R s m args below meth c D nL G A Q ws lv cells slots (pc + 1) (.int (x <<< (y &&& 31)) :: st)) : Z p l e R s m args below meth c D nL G A Q ws lv cells slots pc (.int y :: .int x :: st) := fun H locs ls hP hD hS hl => lv_ishl K.1 K.2.1 hdg (kk H locs ls hP hD hS hl)
theorem z_ishr (K : z_K p l s m args meth c G A D tys cc nL ret Ts own) {x y : Int32} (hdg : decode cc pc = .ok (.ishr, 1)) (kk : Z p l e R s m args below meth c D nL G A Q ws lv cells slots (pc + 1) (.int (x >>> (y &&& 31)) :: st)) : Z p l e R s m args below meth c D nL G A Q ws lv cells slots pc (.int y :: .int x :: st) := fun H locs ls hP hD hS hl => lv_ishr K.1 K.2.1 hdg (kk H locs ls hP hD hS hl)
theorem z_iushr (K : z_K p l s m args meth c G A D tys cc nL ret Ts own) {x y v : Int32} (hdg : decode cc pc = .ok (.iushr, 1)) (hv : (x.toUInt32 >>> (y.toUInt32 &&& Int32.toUInt32 31)).toInt32 = v) (kk : Z p l e R s m args below meth c D nL G A Q ws lv cells slots (pc + 1) (.int v :: st)) : Z p l e R s m args below meth c D nL G A Q ws lv cells slots pc (.int y :: .int x :: st) := fun H locs ls hP hD hS hl => lv_iushr K.1 K.2.1 hdg hv (kk H locs ls hP hD hS hl)
theorem z_ineg (K : z_K p l s m args meth c G A D tys cc nL ret Ts own) {x : Int32} (hdg : decode cc pc = .ok (.ineg, 1)) (kk : Z p l e R s m args below meth c D nL G A Q ws lv cells slots (pc + 1) (.int (-x) :: st)) : Z p l e R s m args below meth c D nL G A Q ws lv cells slots pc (.int x :: st) := fun H locs ls hP hD hS hl => lv_ineg K.1 K.2.1 hdg (kk H locs ls hP hD hS hl)
theorem z_ladd (K : z_K p l s m args meth c G A D tys cc nL ret Ts own) {x y : Int64} (hdg : decode cc pc = .ok (.ladd, 1)) (kk : Z p l e R s m args below meth c D nL G A Q ws lv cells slots (pc + 1) (.long (x + y) :: st)) : Z p l e R s m args below meth c D nL G A Q ws lv cells slots pc (.long y :: .long x :: st) := fun H locs ls hP hD hS hl => lv_ladd K.1 K.2.1 hdg (kk H locs ls hP hD hS hl)
theorem z_lmul (K : z_K p l s m args meth c G A D tys cc nL ret Ts own) {x y : Int64} (hdg : decode cc pc = .ok (.lmul, 1)) (kk : Z p l e R s m args below meth c D nL G A Q ws lv cells slots (pc + 1) (.long (x * y) :: st)) : Z p l e R s m args below meth c D nL G A Q ws lv cells slots pc (.long y :: .long x :: st) := fun H locs ls hP hD hS hl => lv_lmul K.1 K.2.1 hdg (kk H locs ls hP hD hS hl)
theorem z_i2l (K : z_K p l s m args meth c G A D tys cc nL ret Ts own) {x : Int32} (hdg : decode cc pc = .ok (.i2l, 1)) (kk : Z p l e R s m args below meth c D nL G A Q ws lv cells slots (pc + 1) (.long x.toInt64 :: st)) : Z p l e R s m args below meth c D nL G A Q ws lv cells slots pc (.int x :: st) := fun H locs ls hP hD hS hl => lv_i2l K.1 K.2.1 hdg rfl (kk H locs ls hP hD hS hl)
theorem z_i2d (K : z_K p l s m args meth c G A D tys cc nL ret Ts own) {x : Int32} (hdg : decode cc pc = .ok (.i2d, 1)) (kk : Z p l e R s m args below meth c D nL G A Q ws lv cells slots (pc + 1) (.double (FP.i2d x) :: st)) : Z p l e R s m args below meth c D nL G A Q ws lv cells slots pc (.int x :: st) := fun H locs ls hP hD hS hl => lv_i2d K.1 K.2.1 hdg (kk H locs ls hP hD hS hl)
theorem z_ddiv (K : z_K p l s m args meth c G A D tys cc nL ret Ts own) {x y : UInt64} (hdg : decode cc pc = .ok (.ddiv, 1)) (hne : vf_n64 (FP.ddiv x y)) (kk : Z p l e R s m args below meth c D nL G A Q ws lv cells slots (pc + 1) (.double (FP.ddiv x y) :: st)) : Z p l e R s m args below meth c D nL G A Q ws lv cells slots pc (.double y :: .double x :: st) := fun H locs ls hP hD hS hl => lv_ddiv K.1 K.2.1 hdg hne (kk H locs ls hP hD hS hl)
theorem z_lcmp (K : z_K p l s m args meth c G A D tys cc nL ret Ts own) {x y : Int64} (hdg : decode cc pc = .ok (.lcmp, 1)) (kk : Z p l e R s m args below meth c D nL G A Q ws lv cells slots (pc + 1) (.int (lg_cmp x y) :: st)) : Z p l e R s m args below meth c D nL G A Q ws lv cells slots pc (.long y :: .long x :: st) := fun H locs ls hP hD hS hl => W.lcmp K.1 K.2.1 hdg (kk H locs ls hP hD hS hl)
theorem z_dcmp (K : z_K p l s m args meth c G A D tys cc nL ret Ts own) {x y : UInt64} {op : CmpOp} (hdg : decode cc pc = .ok (.dcmp op, 1)) (kk : Z p l e R s m args below meth c D nL G A Q ws lv cells slots (pc + 1) (.int (Op.cmpValue (FP.dcmp x y) op) :: st)) : Z p l e R s m args below meth c D nL G A Q ws lv cells slots pc (.double y :: .double x :: st) := fun H locs ls hP hD hS hl => lv_dcmp K.1 K.2.1 hdg (kk H locs ls hP hD hS hl)
theorem z_dup (K : z_K p l s m args meth c G A D tys cc nL ret Ts own) {va : Value} (hdg : decode cc pc = .ok (.dup, 1)) (hva : va.category = 1) (kk : Z p l e R s m args below meth c D nL G A Q ws lv cells slots (pc + 1) (va :: va :: st)) : Z p l e R s m args below meth c D nL G A Q ws lv cells slots pc (va :: st) := fun H locs ls hP hD hS hl => lv_dup K.1 K.2.1 hdg hva (kk H locs ls hP hD hS hl)
theorem z_pop (K : z_K p l s m args meth c G A D tys cc nL ret Ts own) {va : Value} (hdg : decode cc pc = .ok (.pop, 1)) (hva : va.category = 1) (kk : Z p l e R s m args below meth c D nL G A Q ws lv cells slots (pc + 1) st) : Z p l e R s m args below meth c D nL G A Q ws lv cells slots pc (va :: st) := fun H locs ls hP hD hS hl => lv_pop K.1 K.2.1 hdg hva (kk H locs ls hP hD hS hl)
theorem z_goto (K : z_K p l s m args meth c G A D tys cc nL ret Ts own) {off : Int} (tgt : Nat) (hdg : decode cc pc = .ok (.goto off, 3)) (ht : (pc : Int) + off = (tgt : Int)) (kk : Z p l e R s m args below meth c D nL G A Q ws lv cells slots tgt st) : Z p l e R s m args below meth c D nL G A Q ws lv cells slots pc st := fun H locs ls hP hD hS hl => lv_goto K.1 K.2.1 hdg ht (kk H locs ls hP hD hS hl)
theorem z_if_eq (K : z_K p l s m args meth c G A D tys cc nL ret Ts own) {off : Int} {x : Int32} (tgt : Nat) (hdg : decode cc pc = .ok (.ifCond .eq off, 3)) (ht : (pc : Int) + off = (tgt : Int)) (kt : x = 0 → Z p l e R s m args below meth c D nL G A Q ws lv cells slots tgt st) (kf : ¬ x = 0 → Z p l e R s m args below meth c D nL G A Q ws lv cells slots (pc + 3) st) : Z p l e R s m args below meth c D nL G A Q ws lv cells slots pc (.int x :: st) := fun H locs ls hP hD hS hl => lv_if_eq K.1 K.2.1 hdg ht (fun h => kt h H locs ls hP hD hS hl) (fun h => kf h H locs ls hP hD hS hl)
theorem z_if_ne (K : z_K p l s m args meth c G A D tys cc nL ret Ts own) {off : Int} {x : Int32} (tgt : Nat) (hdg : decode cc pc = .ok (.ifCond .ne off, 3)) (ht : (pc : Int) + off = (tgt : Int)) (kt : ¬ x = 0 → Z p l e R s m args below meth c D nL G A Q ws lv cells slots tgt st) (kf : x = 0 → Z p l e R s m args below meth c D nL G A Q ws lv cells slots (pc + 3) st) : Z p l e R s m args below meth c D nL G A Q ws lv cells slots pc (.int x :: st) := fun H locs ls hP hD hS hl => lv_if_ne K.1 K.2.1 hdg ht (fun h => kt h H locs ls hP hD hS hl) (fun h => kf h H locs ls hP hD hS hl)
theorem z_if_lt (K : z_K p l s m args meth c G A D tys cc nL ret Ts own) {off : Int} {x : Int32} (tgt : Nat) (hdg : decode cc pc = .ok (.ifCond .lt off, 3)) (ht : (pc : Int) + off = (tgt : Int)) (kt : x < 0 → Z p l e R s m args below meth c D nL G A Q ws lv cells slots tgt st) (kf : ¬ x < 0 → Z p l e R s m args below meth c D nL G A Q ws lv cells slots (pc + 3) st) : Z p l e R s m args below meth c D nL G A Q ws lv cells slots pc (.int x :: st) := fun H locs ls hP hD hS hl => lv_if_lt K.1 K.2.1 hdg ht (fun h => kt h H locs ls hP hD hS hl) (fun h => kf h H locs ls hP hD hS hl)
theorem z_if_le (K : z_K p l s m args meth c G A D tys cc nL ret Ts own) {off : Int} {x : Int32} (tgt : Nat) (hdg : decode cc pc = .ok (.ifCond .le off, 3)) (ht : (pc : Int) + off = (tgt : Int)) (kt : x ≤ 0 → Z p l e R s m args below meth c D nL G A Q ws lv cells slots tgt st) (kf : ¬ x ≤ 0 → Z p l e R s m args below meth c D nL G A Q ws lv cells slots (pc + 3) st) : Z p l e R s m args below meth c D nL G A Q ws lv cells slots pc (.int x :: st) := fun H locs ls hP hD hS hl => lv_if_le K.1 K.2.1 hdg ht (fun h => kt h H locs ls hP hD hS hl) (fun h => kf h H locs ls hP hD hS hl)
theorem z_if_gt (K : z_K p l s m args meth c G A D tys cc nL ret Ts own) {off : Int} {x : Int32} (tgt : Nat) (hdg : decode cc pc = .ok (.ifCond .gt off, 3)) (ht : (pc : Int) + off = (tgt : Int)) (kt : 0 < x → Z p l e R s m args below meth c D nL G A Q ws lv cells slots tgt st) (kf : ¬ 0 < x → Z p l e R s m args below meth c D nL G A Q ws lv cells slots (pc + 3) st) : Z p l e R s m args below meth c D nL G A Q ws lv cells slots pc (.int x :: st) := fun H locs ls hP hD hS hl => lv_if_gt K.1 K.2.1 hdg ht (fun h => kt h H locs ls hP hD hS hl) (fun h => kf h H locs ls hP hD hS hl)
theorem z_if_ge (K : z_K p l s m args meth c G A D tys cc nL ret Ts own) {off : Int} {x : Int32} (tgt : Nat) (hdg : decode cc pc = .ok (.ifCond .ge off, 3)) (ht : (pc : Int) + off = (tgt : Int)) (kt : 0 ≤ x → Z p l e R s m args below meth c D nL G A Q ws lv cells slots tgt st) (kf : ¬ 0 ≤ x → Z p l e R s m args below meth c D nL G A Q ws lv cells slots (pc + 3) st) : Z p l e R s m args below meth c D nL G A Q ws lv cells slots pc (.int x :: st) := fun H locs ls hP hD hS hl => lv_if_ge K.1 K.2.1 hdg ht (fun h => kt h H locs ls hP hD hS hl) (fun h => kf h H locs ls hP hD hS hl)
theorem z_icmp_eq (K : z_K p l s m args meth c G A D tys cc nL ret Ts own) {off : Int} {x y : Int32} (tgt : Nat) (hdg : decode cc pc = .ok (.if_icmp .eq off, 3)) (ht : (pc : Int) + off = (tgt : Int)) (kt : x = y → Z p l e R s m args below meth c D nL G A Q ws lv cells slots tgt st) (kf : ¬ x = y → Z p l e R s m args below meth c D nL G A Q ws lv cells slots (pc + 3) st) : Z p l e R s m args below meth c D nL G A Q ws lv cells slots pc (.int y :: .int x :: st) := fun H locs ls hP hD hS hl => lv_icmp_eq K.1 K.2.1 hdg ht (fun h => kt h H locs ls hP hD hS hl) (fun h => kf h H locs ls hP hD hS hl)
theorem z_icmp_ne (K : z_K p l s m args meth c G A D tys cc nL ret Ts own) {off : Int} {x y : Int32} (tgt : Nat) (hdg : decode cc pc = .ok (.if_icmp .ne off, 3)) (ht : (pc : Int) + off = (tgt : Int)) (kt : ¬ x = y → Z p l e R s m args below meth c D nL G A Q ws lv cells slots tgt st) (kf : x = y → Z p l e R s m args below meth c D nL G A Q ws lv cells slots (pc + 3) st) : Z p l e R s m args below meth c D nL G A Q ws lv cells slots pc (.int y :: .int x :: st) := fun H locs ls hP hD hS hl => lv_icmp_ne K.1 K.2.1 hdg ht (fun h => kt h H locs ls hP hD hS hl) (fun h => kf h H locs ls hP hD hS hl)
theorem z_icmp_lt (K : z_K p l s m args meth c G A D tys cc nL ret Ts own) {off : Int} {x y : Int32} (tgt : Nat) (hdg : decode cc pc = .ok (.if_icmp .lt off, 3)) (ht : (pc : Int) + off = (tgt : Int)) (kt : x < y → Z p l e R s m args below meth c D nL G A Q ws lv cells slots tgt st) (kf : ¬ x < y → Z p l e R s m args below meth c D nL G A Q ws lv cells slots (pc + 3) st) : Z p l e R s m args below meth c D nL G A Q ws lv cells slots pc (.int y :: .int x :: st) := fun H locs ls hP hD hS hl => lv_icmp_lt K.1 K.2.1 hdg ht (fun h => kt h H locs ls hP hD hS hl) (fun h => kf h H locs ls hP hD hS hl)
theorem z_icmp_ge (K : z_K p l s m args meth c G A D tys cc nL ret Ts own) {off : Int} {x y : Int32} (tgt : Nat) (hdg : decode cc pc = .ok (.if_icmp .ge off, 3)) (ht : (pc : Int) + off = (tgt : Int)) (kt : y ≤ x → Z p l e R s m args below meth c D nL G A Q ws lv cells slots tgt st) (kf : ¬ y ≤ x → Z p l e R s m args below meth c D nL G A Q ws lv cells slots (pc + 3) st) : Z p l e R s m args below meth c D nL G A Q ws lv cells slots pc (.int y :: .int x :: st) := fun H locs ls hP hD hS hl => lv_icmp_ge K.1 K.2.1 hdg ht (fun h => kt h H locs ls hP hD hS hl) (fun h => kf h H locs ls hP hD hS hl)
theorem z_icmp_gt (K : z_K p l s m args meth c G A D tys cc nL ret Ts own) {off : Int} {x y : Int32} (tgt : Nat) (hdg : decode cc pc = .ok (.if_icmp .gt off, 3)) (ht : (pc : Int) + off = (tgt : Int)) (kt : y < x → Z p l e R s m args below meth c D nL G A Q ws lv cells slots tgt st) (kf : ¬ y < x → Z p l e R s m args below meth c D nL G A Q ws lv cells slots (pc + 3) st) : Z p l e R s m args below meth c D nL G A Q ws lv cells slots pc (.int y :: .int x :: st) := fun H locs ls hP hD hS hl => lv_icmp_gt K.1 K.2.1 hdg ht (fun h => kt h H locs ls hP hD hS hl) (fun h => kf h H locs ls hP hD hS hl)
theorem z_icmp_le (K : z_K p l s m args meth c G A D tys cc nL ret Ts own) {off : Int} {x y : Int32} (tgt : Nat) (hdg : decode cc pc = .ok (.if_icmp .le off, 3)) (ht : (pc : Int) + off = (tgt : Int)) (kt : x ≤ y → Z p l e R s m args below meth c D nL G A Q ws lv cells slots tgt st) (kf : ¬ x ≤ y → Z p l e R s m args below meth c D nL G A Q ws lv cells slots (pc + 3) st) : Z p l e R s m args below meth c D nL G A Q ws lv cells slots pc (.int y :: .int x :: st) := fun H locs ls hP hD hS hl => lv_icmp_le K.1 K.2.1 hdg ht (fun h => kt h H locs ls hP hD hS hl) (fun h => kf h H locs ls hP hD hS hl)
/-- a counter against its bound -/
theorem z_cmpN (K : z_K p l s m args meth c G A D tys cc nL ret Ts own) {off : Int} {x y : Int32} (tgt a b : Nat) (hdg : decode cc pc = .ok (.if_icmp .ge off, 3)) (ht : (pc : Int) + off = (tgt : Int)) (hx : x = nI a) (hy : y = nI b) (ha : a < 2 ^ 31) (hb : b < 2 ^ 31) (kt : b ≤ a → Z p l e R s m args below meth c D nL G A Q ws lv cells slots tgt st) (kf : a < b → Z p l e R s m args below meth c D nL G A Q ws lv cells slots (pc + 3) st) : Z p l e R s m args below meth c D nL G A Q ws lv cells slots pc (.int y :: .int x :: st) := by
  subst hx hy
  exact z_icmp_ge K tgt hdg ht (fun h => kt ((nI_leI hb ha).mp h)) (fun h => kf (Nat.lt_of_not_le (fun q => h ((nI_leI hb ha).mpr q))))
theorem z_dup2 (K : z_K p l s m args meth c G A D tys cc nL ret Ts own) {va vb : Value} (hdg : decode cc pc = .ok (.dup2, 1)) (hva : va.category = 1) (hvb : vb.category = 1) (kk : Z p l e R s m args below meth c D nL G A Q ws lv cells slots (pc + 1) (va :: vb :: va :: vb :: st)) : Z p l e R s m args below meth c D nL G A Q ws lv cells slots pc (va :: vb :: st) := fun H locs ls hP hD hS hl => lv_dup2_11 K.1 K.2.1 hdg hva hvb (kk H locs ls hP hD hS hl)
/-- a truth as a number -/
def z_b (b : Bool) : Int32 := if b then 1 else 0
theorem z_b0 {b : Bool} : z_b b = 0 ↔ b = false := by cases b <;> decide
theorem z_b1 {b : Bool} : ¬ z_b b = 0 ↔ b = true := by cases b <;> decide
theorem z_if_eqB (K : z_K p l s m args meth c G A D tys cc nL ret Ts own) {off : Int} {b : Bool} (tgt : Nat) (hdg : decode cc pc = .ok (.ifCond .eq off, 3)) (ht : (pc : Int) + off = (tgt : Int)) (kt : b = false → Z p l e R s m args below meth c D nL G A Q ws lv cells slots tgt st) (kf : b = true → Z p l e R s m args below meth c D nL G A Q ws lv cells slots (pc + 3) st) : Z p l e R s m args below meth c D nL G A Q ws lv cells slots pc (.int (z_b b) :: st) := z_if_eq K tgt hdg ht (fun h => kt (z_b0.mp h)) (fun h => kf (z_b1.mp h))
theorem z_if_neB (K : z_K p l s m args meth c G A D tys cc nL ret Ts own) {off : Int} {b : Bool} (tgt : Nat) (hdg : decode cc pc = .ok (.ifCond .ne off, 3)) (ht : (pc : Int) + off = (tgt : Int)) (kt : b = true → Z p l e R s m args below meth c D nL G A Q ws lv cells slots tgt st) (kf : b = false → Z p l e R s m args below meth c D nL G A Q ws lv cells slots (pc + 3) st) : Z p l e R s m args below meth c D nL G A Q ws lv cells slots pc (.int (z_b b) :: st) := z_if_ne K tgt hdg ht (fun h => kt (z_b1.mp h)) (fun h => kf (z_b0.mp h))
/-- fields -/
theorem z_get (K : z_K p l s m args meth c G A D tys cc nL ret Ts own) {C ref : String} {T : u_T} {N ci index : Nat} (hin : ∀ w ∈ u_ws C T N, w ∈ Ts) (hc : vwCl[ci]? = some (C, T, N)) (q0 : Nat) {a : Nat} {fs : List Value} (he : ws[q0]? = some (a, .inr (ci, fs))) (k : Nat) (hk : k < N) (hw : Cond.fieldLink own index ref (T k).2.1 (T k).2.2.1 ∈ Ts) (hsame : (T k).1 = ref) {v : Value} (hv : fs[k]? = some v) (hdg : decode cc pc = .ok (.getfield index, 3)) (kk : Z p l e R s m args below meth c D nL G A Q ws lv cells slots (pc + 3) (v :: st)) : Z p l e R s m args below meth c D nL G A Q ws lv cells slots pc (.ref a :: st) := fun H locs ls hP hD hS hl =>
  va_get K.1 K.2.1 K.2.2.2.2.1 hin K.2.2.2.1 K.2.2.2.2.2.1 hP q0 he hc k hk (K.2.2.2.2.1 _ hw) (fun x h => by rw [← hsame]; exact h) hv hdg (kk H locs ls hP hD hS hl)
theorem z_put (K : z_K p l s m args meth c G A D tys cc nL ret Ts own) {C ref : String} {T : u_T} {N ci index : Nat} (hin : ∀ w ∈ u_ws C T N, w ∈ Ts) (hc : vwCl[ci]? = some (C, T, N)) (ty0 : Nat → FieldType) (hty : ∀ k, k < N → parseFieldDescriptor (T k).2.2.1 = some (ty0 k)) (hnm : ∀ a, a < N → ∀ b, b < N → a ≠ b → (T a).2.1 ≠ (T b).2.1) (q0 : Nat) {a : Nat} {fs : List Value} (he : ws[q0]? = some (a, .inr (ci, fs))) (k : Nat) (hk : k < N) (hw : Cond.fieldLink own index ref (T k).2.1 (T k).2.2.1 ∈ Ts) (hsame : (T k).1 = ref) (hfin : (T k).2.2.2 = false) {v : Value} (hn : narrow (ty0 k) v = v) (hfit : fits (ty0 k) v = true) (hl0 : k < fs.length) (hA : A a) {ws' : va_W} (hws : ws.set q0 (a, .inr (ci, fs.set k v)) = ws') (hdg : decode cc pc = .ok (.putfield index, 3)) (kk : Z p l e R s m args below meth c D nL G A Q ws' lv cells slots (pc + 3) st) : Z p l e R s m args below meth c D nL G A Q ws lv cells slots pc (v :: .ref a :: st) := by
  intro H locs ls hP hD hS hl
  subst hws
  have hap := va_apart (own := own) K.2.2.2.2.1 hin ty0 hty hnm K.2.2.2.2.2.1 hc
  obtain ⟨r, h1, cell, q1, q2, q3, q4⟩ := hP q0 _ he
  have hr : r = (C, T, N) := Option.some.inj (h1.symm.trans hc)
  subst hr
  obtain ⟨hSl, hfc, kC, hkC, hkind⟩ := K.2.2.2.2.2.1.1 ci _ hc
  obtain ⟨cf, kf, fi, f, hi, hsl⟩ := hSl k hk
  have hlay := K.2.2.2.2.1 _ (hin _ (u_in_lay hk))
  unfold u_lay at hlay
  rw [if_neg (by rw [hfin]; decide)] at hlay
  have hst := (u_facts hfc hkC (u_lays K.2.2.2.2.1 hin hk) hi).1
  have h6 := u_store hfc hkC hkind hlay hi (hty k hk) hn hfit
  have hi2 : s.fieldFound? ref (T k).2.1 (T k).2.2.1 = some (cf, kf, fi, f) := by rw [← hsame]; exact hi
  refine W.putK K.1 K.2.1 (f := f) ⟨K.2.2.2.1, K.2.2.2.2.1 _ hw, ⟨_, _, _, hi2⟩, hst⟩ (by rw [q2]; exact h6) q1 q3 (by rw [hsl]; exact k2_hasslot (q4 k hk)) rfl rfl hdg fun H' e1 e2 e3 => ?_
  rw [hsl] at e1 ⊢
  exact kk H' _ ls (hP.set hD he ⟨_, hc, t_OB.to (V := updV (vp_V fs) k v) ⟨_, e1, q2, q3, t_set q4 hap hk v⟩ (fun j _ => vp_updV_set hl0 v j)⟩ e3) (hD.set he) (hS.put e2 e3 hA) hl
/-- arrays of ints -/
theorem z_iald (K : z_K p l s m args meth c G A D tys cc nL ret Ts own) (q0 t0 : Nat) {a : Nat} {cA : ClassId} {n : Nat} {f : Nat → Int32} (ha : ws[q0]? = some (a, .inl (cA, n, .inl f))) (ht : tys[t0]? = some (cA, .int)) {i : Int32} (hin : vp_in i n) (hdg : decode cc pc = .ok (.iaload, 1)) {x : Int32} (hx : f i.toNatClampNeg = x) (kk : Z p l e R s m args below meth c D nL G A Q ws lv cells slots (pc + 1) (.int x :: st)) : Z p l e R s m args below meth c D nL G A Q ws lv cells slots pc (.int i :: .ref a :: st) := fun H locs ls hP hD hS hl => va_iald K.1 K.2.1 K.2.2.2.2.2.1 hP q0 t0 ha ht hin hdg (by rw [hx]; exact kk H locs ls hP hD hS hl)
theorem z_iast (K : z_K p l s m args meth c G A D tys cc nL ret Ts own) (q0 t0 : Nat) {a : Nat} {cA : ClassId} {n : Nat} {f : Nat → Int32} (ha : ws[q0]? = some (a, .inl (cA, n, .inl f))) (ht : tys[t0]? = some (cA, .int)) {i x : Int32} (hin : vp_in i n) (hdg : decode cc pc = .ok (.iastore, 1)) (hA : A a) {j : Nat} (hj : i.toNatClampNeg = j) {ws' : va_W} (hws : ws.set q0 (a, .inl (cA, n, .inl (upd f j x))) = ws') (kk : Z p l e R s m args below meth c D nL G A Q ws' lv cells slots (pc + 1) st) : Z p l e R s m args below meth c D nL G A Q ws lv cells slots pc (.int x :: .int i :: .ref a :: st) := by
  intro H locs ls hP hD hS hl
  subst hws hj
  refine W.iast K.1 K.2.1 (hP q0 _ ha) ((K.2.2.2.2.2.1.2 t0 _ ht).1 n (fun j => .int (f j))) (fun q => by cases q) (by show ¬ (i < 0 ∨ (arrV _ _ _).slots.size ≤ _); rw [arrV_size]; exact hin) rfl rfl hdg fun H1 e z oq => ?_
  refine kk H1 _ ls (hP.set hD ha ?_ oq) (hD.set ha) (hS.put z oq hA) hl
  show H1[a]? = some (vp_cell _ _)
  rw [e]
  rw [vp_cell_i, vp_cell_i, arrV_store]
  show some (arrV cA n _) = some (arrV cA n _)
  congr 2
  funext q
  by_cases hq : q = i.toNatClampNeg
  · subst hq
    simp [updV, upd]
  · simp [updV, upd, hq]
theorem z_alen (K : z_K p l s m args meth c G A D tys cc nL ret Ts own) (q0 t0 : Nat) {a : Nat} {cA : ClassId} {x : vp_A} (ha : ws[q0]? = some (a, .inl (cA, x))) {ty : FieldType} (ht : tys[t0]? = some (cA, ty)) {v : Int32} (hv : Int32.ofNat x.1 = v) (hdg : decode cc pc = .ok (.arraylength, 1)) (kk : Z p l e R s m args below meth c D nL G A Q ws lv cells slots (pc + 1) (.int v :: st)) : Z p l e R s m args below meth c D nL G A Q ws lv cells slots pc (.ref a :: st) := fun H locs ls hP hD hS hl => va_alen K.1 K.2.1 K.2.2.2.2.2.1 hP q0 t0 ha ht hv hdg (kk H locs ls hP hD hS hl)
theorem z_lald (K : z_K p l s m args meth c G A D tys cc nL ret Ts own) (q0 t0 : Nat) {a : Nat} {cA : ClassId} {n : Nat} {f : Nat → Int64} (ha : ws[q0]? = some (a, .inl (cA, n, .inr (.inl f)))) (ht : tys[t0]? = some (cA, .long)) {i : Int32} (hin : vp_in i n) (hdg : decode cc pc = .ok (.laload, 1)) {x : Int64} (hx : f i.toNatClampNeg = x) (kk : Z p l e R s m args below meth c D nL G A Q ws lv cells slots (pc + 1) (.long x :: st)) : Z p l e R s m args below meth c D nL G A Q ws lv cells slots pc (.int i :: .ref a :: st) := fun H locs ls hP hD hS hl => va_lald K.1 K.2.1 K.2.2.2.2.2.1 hP q0 t0 ha ht hin hdg (by rw [hx]; exact kk H locs ls hP hD hS hl)
theorem z_last (K : z_K p l s m args meth c G A D tys cc nL ret Ts own) (q0 t0 : Nat) {a : Nat} {cA : ClassId} {n : Nat} {f : Nat → Int64} (ha : ws[q0]? = some (a, .inl (cA, n, .inr (.inl f)))) (ht : tys[t0]? = some (cA, .long)) {i : Int32} {x : Int64} (hin : vp_in i n) (hdg : decode cc pc = .ok (.lastore, 1)) (hA : A a) {j : Nat} (hj : i.toNatClampNeg = j) {ws' : va_W} (hws : ws.set q0 (a, .inl (cA, n, .inr (.inl (vp_updL f j x)))) = ws') (kk : Z p l e R s m args below meth c D nL G A Q ws' lv cells slots (pc + 1) st) : Z p l e R s m args below meth c D nL G A Q ws lv cells slots pc (.long x :: .int i :: .ref a :: st) := by
  intro H locs ls hP hD hS hl
  subst hws hj
  refine W.last K.1 K.2.1 (hP q0 _ ha) ((K.2.2.2.2.2.1.2 t0 _ ht).1 n (fun j => .long (f j))) (fun q => by cases q) (by show ¬ (i < 0 ∨ (arrV _ _ _).slots.size ≤ _); rw [arrV_size]; exact hin) rfl rfl hdg fun H1 e z oq => ?_
  refine kk H1 _ ls (hP.set hD ha ?_ oq) (hD.set ha) (hS.put z oq hA) hl
  show H1[a]? = some (vp_cell _ _)
  rw [e]
  rw [vp_cell_l, vp_cell_l, arrV_store]
  show some (arrV cA n _) = some (arrV cA n _)
  congr 2
  funext q
  by_cases hq : q = i.toNatClampNeg
  · subst hq
    simp [updV, vp_updL]
  · simp [updV, vp_updL, hq]
/-- a counted loop: from its end back to its head -/
theorem z_down {P : Nat → Prop} (n : Nat) (h0 : P n) (hs : ∀ k, k < n → P (k + 1) → P k) : ∀ k, k ≤ n → P k := by
  have key : ∀ d k, k + d = n → P k := by
    intro d
    induction d with
    | zero => intro k hk; rw [show k = n by omega]; exact h0
    | succ d ih => intro k hk; exact hs k (by omega) (ih (k + 1) (by omega))
  exact fun k hk => key (n - k) k (by omega)
/-- some cells of a world anew -/
def z_set : va_W → List Nat → va_W → va_W
  | ws, i :: is, w :: wv => z_set (ws.set i w) is wv
  | ws, _, _ => ws
theorem z_set_mem : ∀ (is : List Nat) (wv ws : va_W), is.map (fun i => (ws[i]?).map Prod.fst) = wv.map (fun w => some w.1) → (∀ k : Nat, ((z_set ws is wv)[k]?).map Prod.fst = (ws[k]?).map Prod.fst) ∧ ∀ (k : Nat) (q : Nat × va_E), (z_set ws is wv)[k]? = some q → q ∈ wv ∨ (ws[k]? = some q ∧ k ∉ is)
  | [], wv, ws, h => by
    have e : z_set ws [] wv = ws := by cases wv <;> rfl
    rw [e]
    exact ⟨fun _ => rfl, fun k q hq => Or.inr ⟨hq, List.not_mem_nil⟩⟩
  | i :: is, [], ws, h => by simp at h
  | i :: is, w :: wv, ws, h => by
    simp only [List.map_cons, List.cons.injEq] at h
    obtain ⟨h1, h2⟩ := h
    have hkey : ∀ k : Nat, ((ws.set i w)[k]?).map Prod.fst = (ws[k]?).map Prod.fst := by
      intro k
      by_cases hk : k = i
      · subst hk
        cases hwk : ws[k]? with
        | none => rw [hwk] at h1; simp at h1
        | some e =>
          have hl := (List.getElem?_eq_some_iff.mp hwk).1
          rw [List.getElem?_set_self hl]
          rw [hwk] at h1
          simpa using h1.symm
      · rw [List.getElem?_set_ne (Ne.symm hk)]
    have ih := z_set_mem is wv (ws.set i w) (by rw [← h2]; exact List.map_congr_left (fun j _ => hkey j))
    refine ⟨fun k => by rw [show z_set ws (i :: is) (w :: wv) = z_set (ws.set i w) is wv from rfl, ih.1 k, hkey k], fun k q hq => ?_⟩
    rcases ih.2 k q hq with h | ⟨h, hn⟩
    · exact Or.inl (List.mem_cons_of_mem _ h)
    · by_cases hk : k = i
      · subst hk
        have hl : k < ws.length := by
          have := (List.getElem?_eq_some_iff.mp h).1
          rwa [List.length_set] at this
        rw [List.getElem?_set_self hl] at h
        cases h
        exact Or.inl List.mem_cons_self
      · rw [List.getElem?_set_ne (Ne.symm hk)] at h
        exact Or.inr ⟨h, fun hm => (List.mem_cons.mp hm).elim hk hn⟩
theorem z_set_P {wv : va_W} {is : List Nat} {H H1 : Heap} (hP : va_P D vwCl ws H) (hD : va_D G ws) (hW : is.map (fun i => (ws[i]?).map Prod.fst) = wv.map (fun w => some w.1)) (hF : ∀ q, q < H.size → q ∉ wv.map Prod.fst → H1[q]? = H[q]?) (hPw : va_P D vwCl wv H1) : va_P D vwCl (z_set ws is wv) H1 := by
  intro k q hk
  rcases (z_set_mem is wv ws hW).2 k q hk with h | ⟨h, hn⟩
  · obtain ⟨j, hj⟩ := List.mem_iff_getElem?.mp h
    exact hPw j q hj
  · refine (hP k q h).kept (hF q.1 (hP k q h).lt (fun hm => ?_))
    obtain ⟨w, hw, e⟩ := List.mem_map.mp hm
    obtain ⟨j, hj⟩ := List.mem_iff_getElem?.mp hw
    have h1 : (is.map (fun i => (ws[i]?).map Prod.fst))[j]? = some (some w.1) := by rw [hW, List.getElem?_map, hj]; rfl
    rw [List.getElem?_map] at h1
    cases hi : is[j]? with
    | none => rw [hi] at h1; cases h1
    | some i =>
      rw [hi] at h1
      have h2 : (ws[i]?).map Prod.fst = some w.1 := Option.some.inj h1
      cases hwi : ws[i]? with
      | none => rw [hwi] at h2; cases h2
      | some e' =>
        rw [hwi] at h2
        have h3 : e'.1 = w.1 := Option.some.inj h2
        have := hD.1 k i q e' h hwi (by rw [h3, e])
        subst this
        exact hn (List.mem_of_getElem? hi)
theorem z_set_D {wv : va_W} {is : List Nat} (hD : va_D G ws) (hW : is.map (fun i => (ws[i]?).map Prod.fst) = wv.map (fun w => some w.1)) : va_D G (z_set ws is wv) := by
  have hm := (z_set_mem is wv ws hW).1
  have ex : ∀ (i : Nat) (q : Nat × va_E), (z_set ws is wv)[i]? = some q → ∃ q', ws[i]? = some q' ∧ q'.1 = q.1 := by
    intro i q h
    have h1 := hm i
    rw [h] at h1
    cases hw : ws[i]? with
    | none => rw [hw] at h1; cases h1
    | some e => rw [hw] at h1; exact ⟨e, rfl, (Option.some.inj h1).symm⟩
  refine ⟨fun i j a b ha hb hab => ?_, fun k q hk => ?_⟩
  · obtain ⟨a', h1, h2⟩ := ex i a ha
    obtain ⟨b', h3, h4⟩ := ex j b hb
    exact hD.1 i j a' b' h1 h3 (by rw [h2, h4, hab])
  · obtain ⟨q', h1, h2⟩ := ex k q hk
    rw [← h2]
    exact hD.2 k q' h1
/-! contracts: what a method answers, and which cells hold what behind it; nothing else is written -/
def z_A (ch : List Nat) (sz : Nat) : Nat → Prop := fun q => q ∈ ch ∨ sz ≤ q
def z_fr (ch : List Nat) (st t : State) : Prop := st.heap.size ≤ t.heap.size ∧ ∀ q : Nat, q < st.heap.size → q ∉ ch → t.heap[q]? = st.heap[q]?
def z_pre (l : Launch) (G : Nat → Prop) (D : va_G) (tys : List (ClassId × FieldType)) (av : List Value) (wp : va_W) (sz : Nat) (a : Array Value) (U : State) : Prop := U.heap.size = sz ∧ a = av.toArray ∧ va_P D vwCl wp U.heap ∧ z_E l G D tys U ∧ va_D G wp
def z_Q (D : va_G) (v : Option Value) (wv : va_W) (_ : Array Value) (st : State) (o : Outcome) (t : State) : Prop := o = .returned v ∧ va_P D vwCl wv t.heap ∧ z_fr (wv.map Prod.fst) st t
/-- a method that returns: from the cells wp, with v; the cells wv behind it -/
def z_M (l : Launch) (y : MethodName) (wy : List Cond) (rm : Room) (G : Nat → Prop) (D : va_G) (tys : List (ClassId × FieldType)) (av : List Value) (wp : va_W) (v : Option Value) (wv : va_W) (mc ms : Nat) : Prop :=
  ∀ sz : Nat, Met l y wy rm (z_pre l G D tys av wp sz) (z_Q D v wv) mc ms (z_A (wv.map Prod.fst) sz)
theorem z_blind {av : List Value} {wp : va_W} {sz : Nat} : FrameBlind (z_pre l G D tys av wp sz) := fun _ _ g mk q => ⟨q.1, q.2.1, q.2.2.1, q.2.2.2.1.calling g mk _, q.2.2.2.2⟩
theorem z_preP {av : List Value} {wp : va_W} {H : Heap} {locs : List Loc} (hE : z_E l G D tys s) (hAG : ∀ q, A q → G q) (hP : va_P D vwCl ws H) (hD : va_D G ws) (hS : va_S A s.heap H locs) (is : List Nat) (hn : va_nd is = true) (hC : is.map (fun i => ws[i]?) = wp.map some) (U : State) (hU : U.heap = H) (hW : s.WarmedH U.vm) : z_pre l G D tys av wp H.size av.toArray U := by
  refine ⟨by rw [hU], rfl, ?_, hE.step hW (by rw [hU]; exact hS.1) (fun q h1 h2 => by rw [hU]; exact hS.2.1 q h1 (fun h => h2 (hAG q h))), hD.sub is hn hC⟩
  rw [hU]
  refine hP.sub is ?_
  have : is.filterMap (fun i => ws[i]?) = (is.map (fun i => ws[i]?)).filterMap id := by rw [List.filterMap_map]; rfl
  rw [this, hC, List.filterMap_map]; exact List.filterMap_some
/-- behind a call -/
theorem z_after {wv : va_W} {isW : List Nat} {H : Heap} {locs L : List Loc} {st₀ t T' : State} (hP : va_P D vwCl ws H) (hD : va_D G ws) (hS : va_S A s.heap H locs) (hW : isW.map (fun i => (ws[i]?).map Prod.fst) = wv.map (fun w => some w.1)) (hA : ∀ q ∈ wv.map Prod.fst, A q) (hAn : ∀ q : Nat, s.heap.size ≤ q → A q)
    (h0 : st₀.heap = H) (e1 : T'.heap = t.heap) (hPv : va_P D vwCl wv t.heap) (hF : z_fr (wv.map Prod.fst) st₀ t) (hL : ∀ q ∈ L, z_A (wv.map Prod.fst) H.size q.base) : va_P D vwCl (z_set ws isW wv) T'.heap ∧ va_D G (z_set ws isW wv) ∧ va_S A s.heap T'.heap (locs ++ L) := by
  obtain ⟨f1, f2⟩ := hF
  rw [h0] at f1 f2
  refine ⟨z_set_P hP hD hW (fun q h1 h2 => by rw [e1]; exact f2 q h1 h2) (by rw [e1]; exact hPv), z_set_D hD hW, ?_, ?_, ?_⟩
  · rw [e1]; exact Nat.le_trans hS.1 f1
  · intro q h1 h2
    rw [e1, f2 q (Nat.lt_of_lt_of_le h1 hS.1) (fun h => h2 (hA q h))]
    exact hS.2.1 q h1 h2
  · intro q hq
    rcases List.mem_append.mp hq with h | h
    · exact hS.2.2 q h
    · rcases hL q h with h | h
      · exact hA _ h
      · exact hAn _ (Nat.le_trans hS.1 h)
theorem z_call {v : Option Value} {wv ws' : va_W} {mc ms : Nat} {rest st' : List Value} {a : Array Value} (K : z_K p l s m args meth c G A D tys cc nL ret Ts own)
    (hr : ∀ (H : Heap) (locs : List Loc) (ls : Array Slot), va_P D vwCl ws H → va_D G ws → va_S A s.heap H locs → lv_has ls nL lv → va_Run p l e R s m args below meth c H locs cells slots mc ms (F0 m pc ls st) rest (z_Q D v wv a) (z_A (wv.map Prod.fst) H.size))
    (isW : List Nat) (hW : isW.map (fun i => (ws[i]?).map Prod.fst) = wv.map (fun w => some w.1)) (hA : ∀ q ∈ wv.map Prod.fst, A q) (hws : z_set ws isW wv = ws') (hst : v.toList ++ rest = st')
    (kk : Z p l e R s m args below meth c D nL G A Q ws' lv (cells + mc) (slots + ms) (pc + 3) st') : Z p l e R s m args below meth c D nL G A Q ws lv cells slots pc st := by
  intro H locs ls hP hD hS hl T hT X
  obtain ⟨v', st₀, t, T', L, h0, X', hL, e1, e2, ⟨hv, hPv, hF⟩, go⟩ := hr H locs ls hP hD hS hl T hT X
  cases hv
  obtain ⟨g1, g2, g3⟩ := z_after hP hD hS hW hA K.2.2.2.2.2.2.2.2.2.2 h0 e1 hPv hF hL
  rw [hws] at g1 g2
  subst hst
  obtain ⟨t2, a1, b1⟩ := kk T'.heap (locs ++ L) ls g1 g2 g3 hl T' rfl X'
  exact ⟨t2, go t2 a1, b1⟩
theorem z_inA {ch : List Nat} {sz : Nat} {wv : va_W} (is : List Nat) (h : is.map (fun i => ch[i]?) = wv.map (fun w => some w.1)) : ∀ q ∈ wv.map Prod.fst, z_A ch sz q := by
  intro q hq
  obtain ⟨w, hw, e⟩ := List.mem_map.mp hq
  obtain ⟨j, hj⟩ := List.mem_iff_getElem?.mp hw
  have h1 : (is.map (fun i => ch[i]?))[j]? = some (some w.1) := by rw [h, List.getElem?_map, hj]; rfl
  rw [List.getElem?_map] at h1
  cases hi : is[j]? with
  | none => rw [hi] at h1; cases h1
  | some i =>
    rw [hi] at h1
    rw [← e]
    exact Or.inl (List.mem_of_getElem? (Option.some.inj h1))
/-- the calls by their kinds -/
theorem z_callV {y : MethodName} {wy wy' : List Cond} {rm : Room} {b : Nat} {As : List Value} {wp wv ws' : va_W} {v : Option Value} {mc ms index maxL : Nat} {by' : ByteArray} {ry : Option FieldType} {C : String} {rest st' : List Value} {fs : List Value} {T : u_T} {N : Nat}
    (K : z_K p l s m args meth c G A D tys cc nL ret Ts own) (hM : z_M l y wy rm G D tys (.ref b :: As) wp v wv mc ms) (hG : GoodIn Ts (wsV own index C y wy)) (hw : wy = Cond.code y by' maxL ry :: wy') (n ci : Nat)
    (hd : y.cls = C ∧ y.cls ≠ "java/lang/invoke/MethodHandle" ∧ y.cls ≠ "java/lang/invoke/VarHandle" ∧ (parseMethodDescriptor y.desc).map (fun d => d.parameters.length) = some n) (hc : vwCl[ci]? = some (C, T, N)) (hdg : decode cc pc = .ok (.invokevirtual index, 3))
    (is : List Nat) (q0 : Nat) (isW isA : List Nat) {ch : List Nat} {sz : Nat} (hAA : A = z_A ch sz) (hrc : rm.cells = mc) (hrs : rm.slots = ms) (hR : rm.frames + 1 ≤ R.frames ∧ 8 + (maxL + 11) + rm.locals ≤ R.locals) (hf : cells + mc ≤ R.cells ∧ slots + ms ≤ R.slots)
    (hn : va_nd is = true) (hC : is.map (fun i => ws[i]?) = wp.map some) (he : ws[q0]? = some (b, .inr (ci, fs))) (hlen : As.length = n) (hstk : st = As.reverse ++ .ref b :: rest) (hcat : (rest.map fun v => v.category).sum ≤ 8)
    (hW : isW.map (fun i => (ws[i]?).map Prod.fst) = wv.map (fun w => some w.1)) (hA : isA.map (fun i => ch[i]?) = wv.map (fun w => some w.1)) (hws : z_set ws isW wv = ws') (hst : v.toList ++ rest = st')
    (kk : Z p l e R s m args below meth c D nL G A Q ws' lv (cells + mc) (slots + ms) (pc + 3) st') : Z p l e R s m args below meth c D nL G A Q ws lv cells slots pc st :=
  z_call K (fun H locs ls hP hD hS hl => va_runV ⟨K.1, K.2.1, K.2.2.1, K.2.2.2.1, K.2.2.2.2.1⟩ (hM H.size) (cwV n K.2.2.2.2.1 hG hw hrc hrs hd hR) ⟨z_blind, va_recv K.2.2.2.2.2.1 hP hc he, fun U hU hW => z_preP K.2.2.2.2.2.2.2.2.1 K.2.2.2.2.2.2.2.2.2.1 hP hD hS is hn hC U hU hW⟩ rfl hlen hl.1 hstk (lv_room hcat) hdg hf) isW hW (by rw [hAA]; exact z_inA isA hA) hws hst kk
theorem z_callS {y : MethodName} {wy wy' : List Cond} {rm : Room} {As : List Value} {wp wv ws' : va_W} {v : Option Value} {mc ms index maxL : Nat} {by' : ByteArray} {ry : Option FieldType} {rest st' : List Value}
    (K : z_K p l s m args meth c G A D tys cc nL ret Ts own) (hM : z_M l y wy rm G D tys As wp v wv mc ms) (hG : GoodIn Ts (va_wsS own index y wy)) (hw : wy = Cond.code y by' maxL ry :: wy') (n : Nat)
    (hd : y.cls ≠ "java/lang/invoke/MethodHandle" ∧ y.cls ≠ "java/lang/invoke/VarHandle" ∧ (parseMethodDescriptor y.desc).map (fun d => d.parameters.length) = some n) (hdg : decode cc pc = .ok (.invokestatic index, 3))
    (is : List Nat) (isW isA : List Nat) {ch : List Nat} {sz : Nat} (hAA : A = z_A ch sz) (hrc : rm.cells = mc) (hrs : rm.slots = ms) (hR : rm.frames + 1 ≤ R.frames ∧ 8 + (maxL + 11) + rm.locals ≤ R.locals) (hf : cells + mc ≤ R.cells ∧ slots + ms ≤ R.slots)
    (hn : va_nd is = true) (hC : is.map (fun i => ws[i]?) = wp.map some) (hlen : As.length = n) (hstk : st = As.reverse ++ rest) (hcat : (rest.map fun v => v.category).sum ≤ 8)
    (hW : isW.map (fun i => (ws[i]?).map Prod.fst) = wv.map (fun w => some w.1)) (hA : isA.map (fun i => ch[i]?) = wv.map (fun w => some w.1)) (hws : z_set ws isW wv = ws') (hst : v.toList ++ rest = st')
    (kk : Z p l e R s m args below meth c D nL G A Q ws' lv (cells + mc) (slots + ms) (pc + 3) st') : Z p l e R s m args below meth c D nL G A Q ws lv cells slots pc st :=
  z_call K (fun H locs ls hP hD hS hl => va_runS ⟨K.1, K.2.1, K.2.2.1, K.2.2.2.1, K.2.2.2.2.1⟩ (hM H.size) (va_cwS n K.2.2.2.2.1 hG hw hrc hrs hd hR) ⟨z_blind, fun U hU hW => z_preP K.2.2.2.2.2.2.2.2.1 K.2.2.2.2.2.2.2.2.2.1 hP hD hS is hn hC U hU hW⟩ rfl hlen hl.1 hstk (lv_room hcat) hdg hf) isW hW (by rw [hAA]; exact z_inA isA hA) hws hst kk
/-- a private function of the host, without cells: nothing is written -/
theorem z_callSN {y : MethodName} {wy wy' : List Cond} {rm : Room} {As : List Value} {v : Option Value} {index maxL : Nat} {by' : ByteArray} {ry : Option FieldType} {rest st' : List Value} {host : String}
    (K : z_K p l s m args meth c G A D tys cc nL ret Ts own) (hM : z_M l y wy rm G D tys As [] v [] 0 0) (hG : GoodIn Ts wy) (hw : wy = Cond.code y by' maxL ry :: wy') (n : Nat) (hnest : (own, index, y, host) ∈ z_nests) (hini : Cond.initialized y.cls ∈ Ts) (hsta : Cond.static y ∈ Ts)
    (hd : y.cls ≠ "java/lang/invoke/MethodHandle" ∧ y.cls ≠ "java/lang/invoke/VarHandle" ∧ (parseMethodDescriptor y.desc).map (fun d => d.parameters.length) = some n) (hdg : decode cc pc = .ok (.invokestatic index, 3))
    (hrc : rm.cells = 0) (hrs : rm.slots = 0) (hR : rm.frames + 1 ≤ R.frames ∧ 8 + (maxL + 11) + rm.locals ≤ R.locals) (hf : cells ≤ R.cells ∧ slots ≤ R.slots)
    (hlen : As.length = n) (hstk : st = As.reverse ++ rest) (hcat : (rest.map fun v => v.category).sum ≤ 8) (hst : v.toList ++ rest = st')
    (kk : Z p l e R s m args below meth c D nL G A Q ws lv cells slots (pc + 3) st') : Z p l e R s m args below meth c D nL G A Q ws lv cells slots pc st :=
  z_call (ws' := ws) K (fun H locs ls hP hD hS hl => va_runSN ⟨K.1, K.2.1, K.2.2.1, K.2.2.2.1, K.2.2.2.2.1⟩ (hM H.size) ⟨va_cnB n K.2.2.2.2.1 hG hw hrc hrs (K.2.2.2.2.2.2.2.2.1.2.2.2.1 _ hnest) (K.2.2.2.2.1 _ hini) hd hR, K.2.2.2.2.1 _ hsta, trivial⟩ ⟨z_blind, fun U hU hW => z_preP K.2.2.2.2.2.2.2.2.1 K.2.2.2.2.2.2.2.2.2.1 hP hD hS [] rfl rfl U hU hW⟩ rfl hlen hl.1 hstk (lv_room hcat) hdg hf) [] rfl (fun _ h => nomatch h) rfl hst kk
end ZLIB
end
section
section ZENDS
variable {p : Program} {l : Launch} {e : Env} {R : Room} {s : State} {m : MethodId} {args : Array Value} {below : List Frame} {meth : Method} {c : Code} {D : va_G} {nL : Nat} {G A : Nat → Prop} {Q : State → Prop} {ws : va_W} {lv : List (Nat × Value)} {cells slots pc : Nat} {st : List Value} {cc : ByteArray} {ret : Option FieldType} {Ts : List Cond} {own : String} {tys : List (ClassId × FieldType)}
/-! a method from its entry to its ends -/
theorem z_AG {wp wv : va_W} {U : State} (hE : z_E l G D tys U) (hD : va_D G wp) (isG : List Nat) (hG : isG.map (fun i => (wp[i]?).map Prod.fst) = wv.map (fun w => some w.1)) : ∀ q, z_A (wv.map Prod.fst) U.heap.size q → G q := by
  intro q hq
  rcases hq with h | h
  · obtain ⟨w, hw, e⟩ := List.mem_map.mp h
    obtain ⟨j, hj⟩ := List.mem_iff_getElem?.mp hw
    have h1 : (isG.map (fun i => (wp[i]?).map Prod.fst))[j]? = some (some w.1) := by rw [hG, List.getElem?_map, hj]; rfl
    rw [List.getElem?_map] at h1
    cases hi : isG[j]? with
    | none => rw [hi] at h1; cases h1
    | some i =>
      rw [hi] at h1
      have h2 : (wp[i]?).map Prod.fst = some w.1 := Option.some.inj h1
      cases hwi : wp[i]? with
      | none => rw [hwi] at h2; cases h2
      | some e' =>
        rw [hwi] at h2
        have h3 : e'.1 = w.1 := Option.some.inj h2
        rw [← e, ← h3]
        exact hD.2 i e' hwi
  · exact hE.2.2.1 q h
theorem z_ofW {y : MethodName} {wy wy' : List Cond} {rm : Room} {av : List Value} {wp wv : va_W} {v : Option Value} {mc ms : Nat} (hy : plainName y.cls = true) (hw : wy = Cond.code y cc nL ret :: wy') (hav : (lg_sl av).length ≤ nL) (isG : List Nat) (hG : isG.map (fun i => (wp[i]?).map Prod.fst) = wv.map (fun w => some w.1)) {lv0 : List (Nat × Value)} (hlv : lv_args 0 av = lv0)
    (body : ∀ (p : Program) (e : Env) (s : State) (m : MethodId) (args : Array Value) (below : List Frame) (meth : Method) (c : Code), z_K p l s m args meth c G (z_A (wv.map Prod.fst) s.heap.size) D tys cc nL ret wy y.cls → Z p l e rm s m args below meth c D nL G (z_A (wv.map Prod.fst) s.heap.size) (MQ below (z_Q D v wv) args s mc ms (z_A (wv.map Prod.fst) s.heap.size)) wp lv0 0 0 0 []) : z_M l y wy rm G D tys av wp v wv mc ms := by
  intro sz
  refine Met.ofW (cc := cc) (maxL := nL) (ret := ret) hy hw ?_
  intro p e s m args below meth c s₁ B hml hv
  obtain ⟨hsz, rfl, hP, hE, hD⟩ := hv
  subst hsz
  have K : z_K p l s m av.toArray meth c G (z_A (wv.map Prod.fst) s.heap.size) D tys cc nL ret wy y.cls := ⟨B.exec, B.bytes, hml, findClass_of_methodNamed B.named, atoms_spec (ws := wy) B.pre, hE.1, B.returns, B.notSynchronized, hE, z_AG hE hD isG hG, fun q h => Or.inr h⟩
  rw [lg_entry_eq]
  exact body p e s m _ below meth c K s.heap [] _ hP hD va_S.rf (hlv ▸ lv_entry av hav)
theorem z_frOf {wv : va_W} {H : Heap} {locs : List Loc} {t : State} (hS : va_S (z_A (wv.map Prod.fst) s.heap.size) s.heap H locs) (ht : t.heap = H) : z_fr (wv.map Prod.fst) s t := ⟨by rw [ht]; exact hS.1, fun q h1 h2 => by rw [ht]; exact hS.2.1 q h1 (fun h => h.elim h2 (fun h => absurd h (Nat.not_le.mpr h1)))⟩
theorem z_subP {wv : va_W} {H : Heap} (hP : va_P D vwCl ws H) (isW : List Nat) (hW : isW.map (fun i => ws[i]?) = wv.map some) : va_P D vwCl wv H := by
  refine hP.sub isW ?_
  have : isW.filterMap (fun i => ws[i]?) = (isW.map (fun i => ws[i]?)).filterMap id := by rw [List.filterMap_map]; rfl
  rw [this, hW, List.filterMap_map]; exact List.filterMap_some
theorem z_Qof {wv : va_W} {v : Option Value} {H : Heap} {locs : List Loc} {t : State} (hP : va_P D vwCl ws H) (hS : va_S (z_A (wv.map Prod.fst) s.heap.size) s.heap H locs) (isW : List Nat) (hW : isW.map (fun i => ws[i]?) = wv.map some) (ht : t.heap = H) : z_Q D v wv args s (.returned v) t := ⟨rfl, by rw [ht]; exact z_subP hP isW hW, z_frOf hS ht⟩
theorem z_iret {wv : va_W} {mc ms : Nat} (K : z_K p l s m args meth c G (z_A (wv.map Prod.fst) s.heap.size) D tys cc nL (some .int) Ts own) {x y : Int32} (hdg : decode cc pc = .ok (.ireturn, 1)) (hx : x = y) (isW : List Nat) (hW : isW.map (fun i => ws[i]?) = wv.map some) (hc : cells ≤ mc) (hs : slots ≤ ms) : Z p l e R s m args below meth c D nL G (z_A (wv.map Prod.fst) s.heap.size) (MQ below (z_Q D (some (.int y)) wv) args s mc ms (z_A (wv.map Prod.fst) s.heap.size)) ws lv cells slots pc [.int x] := by
  subst hx
  exact fun H locs ls hP hD hS hl => W.widen hc hs (W.iret K.1 K.2.1 K.2.2.2.2.2.2.1 (fun t ht _ => z_Qof hP hS isW hW ht) hS.2.2 hdg K.2.2.2.2.2.2.2.1)
theorem z_dret {wv : va_W} {mc ms : Nat} (K : z_K p l s m args meth c G (z_A (wv.map Prod.fst) s.heap.size) D tys cc nL (some .double) Ts own) {x y : UInt64} (hdg : decode cc pc = .ok (.dreturn, 1)) (hx : x = y) (isW : List Nat) (hW : isW.map (fun i => ws[i]?) = wv.map some) (hc : cells ≤ mc) (hs : slots ≤ ms) : Z p l e R s m args below meth c D nL G (z_A (wv.map Prod.fst) s.heap.size) (MQ below (z_Q D (some (.double y)) wv) args s mc ms (z_A (wv.map Prod.fst) s.heap.size)) ws lv cells slots pc [.double x] := by
  subst hx
  exact fun H locs ls hP hD hS hl => W.widen hc hs (W.dret K.1 K.2.1 K.2.2.2.2.2.2.1 (fun t ht _ => z_Qof hP hS isW hW ht) hS.2.2 hdg K.2.2.2.2.2.2.2.1)
theorem z_zret {wv : va_W} {mc ms : Nat} (K : z_K p l s m args meth c G (z_A (wv.map Prod.fst) s.heap.size) D tys cc nL (some .boolean) Ts own) {x : Int32} {y : Bool} (hdg : decode cc pc = .ok (.ireturn, 1)) (hx : x = z_b y) (isW : List Nat) (hW : isW.map (fun i => ws[i]?) = wv.map some) (hc : cells ≤ mc) (hs : slots ≤ ms) : Z p l e R s m args below meth c D nL G (z_A (wv.map Prod.fst) s.heap.size) (MQ below (z_Q D (some (.int (z_b y))) wv) args s mc ms (z_A (wv.map Prod.fst) s.heap.size)) ws lv cells slots pc [.int x] := by
  subst hx
  exact fun H locs ls hP hD hS hl => W.widen hc hs (W.zret K.1 K.2.1 K.2.2.2.2.2.2.1 (by cases y <;> rfl) (fun t ht _ => z_Qof hP hS isW hW ht) hS.2.2 hdg K.2.2.2.2.2.2.2.1)
theorem z_vret {wv : va_W} {mc ms : Nat} (K : z_K p l s m args meth c G (z_A (wv.map Prod.fst) s.heap.size) D tys cc nL (none) Ts own) (hdg : decode cc pc = .ok (.return_, 1)) (isW : List Nat) (hW : isW.map (fun i => ws[i]?) = wv.map some) (hc : cells ≤ mc) (hs : slots ≤ ms) : Z p l e R s m args below meth c D nL G (z_A (wv.map Prod.fst) s.heap.size) (MQ below (z_Q D none wv) args s mc ms (z_A (wv.map Prod.fst) s.heap.size)) ws lv cells slots pc [] :=
  fun H locs ls hP hD hS hl => W.widen hc hs (W.vret K.1 K.2.1 K.2.2.2.2.2.2.1 (fun t ht _ => z_Qof hP hS isW hW ht) hS.2.2 hdg K.2.2.2.2.2.2.2.1)
theorem z_inc1 (k : Nat) : nI k + Int32.ofInt 1 = nI (k + 1) := nI_1 k
theorem z_memA {ch : List Nat} {sz a : Nat} (i : Nat) (h : ch[i]? = some a) : z_A ch sz a := Or.inl (List.mem_of_getElem? h)
theorem z_ialdN (K : z_K p l s m args meth c G A D tys cc nL ret Ts own) (q0 t0 k : Nat) {a : Nat} {cA : ClassId} {n : Nat} {f : Nat → Int32} (hk : k < n) (hn : n < 2 ^ 31) (ha : ws[q0]? = some (a, .inl (cA, n, .inl f))) (ht : tys[t0]? = some (cA, .int)) (hdg : decode cc pc = .ok (.iaload, 1)) (kk : Z p l e R s m args below meth c D nL G A Q ws lv cells slots (pc + 1) (.int (f k) :: st)) : Z p l e R s m args below meth c D nL G A Q ws lv cells slots pc (.int (nI k) :: .ref a :: st) :=
  z_iald K q0 t0 ha ht (vp_in_nI hk hn) hdg (by rw [nI_clamp (Nat.lt_trans hk hn)]) kk
theorem z_iastN (K : z_K p l s m args meth c G A D tys cc nL ret Ts own) (q0 t0 k : Nat) {a : Nat} {cA : ClassId} {n : Nat} {f : Nat → Int32} {x : Int32} (hk : k < n) (hn : n < 2 ^ 31) (ha : ws[q0]? = some (a, .inl (cA, n, .inl f))) (ht : tys[t0]? = some (cA, .int)) (hdg : decode cc pc = .ok (.iastore, 1)) (hA : A a) {ws' : va_W} (hws : ws.set q0 (a, .inl (cA, n, .inl (upd f k x))) = ws') (kk : Z p l e R s m args below meth c D nL G A Q ws' lv cells slots (pc + 1) st) : Z p l e R s m args below meth c D nL G A Q ws lv cells slots pc (.int x :: .int (nI k) :: .ref a :: st) :=
  z_iast K q0 t0 ha ht (vp_in_nI hk hn) hdg hA (nI_clamp (Nat.lt_trans hk hn)) hws kk
theorem z_ws {ws' : va_W} (h : ws = ws') (kk : Z p l e R s m args below meth c D nL G A Q ws' lv cells slots pc st) : Z p l e R s m args below meth c D nL G A Q ws lv cells slots pc st := by rw [h]; exact kk
theorem z_st {st' : List Value} (h : st = st') (kk : Z p l e R s m args below meth c D nL G A Q ws lv cells slots pc st') : Z p l e R s m args below meth c D nL G A Q ws lv cells slots pc st := by rw [h]; exact kk
theorem z_loop {wsf : Nat → va_W} {lvf : Nat → List (Nat × Value)} (n : Nat) (hw : wsf 0 = ws) (hl : lvf 0 = lv) (h0 : Z p l e R s m args below meth c D nL G A Q (wsf n) (lvf n) cells slots pc st) (hs : ∀ k, k < n → Z p l e R s m args below meth c D nL G A Q (wsf (k + 1)) (lvf (k + 1)) cells slots pc st → Z p l e R s m args below meth c D nL G A Q (wsf k) (lvf k) cells slots pc st) : Z p l e R s m args below meth c D nL G A Q ws lv cells slots pc st := by
  subst hw hl
  exact z_down (P := fun k => Z p l e R s m args below meth c D nL G A Q (wsf k) (lvf k) cells slots pc st) n h0 hs 0 (Nat.zero_le _)
theorem z_upI {wsf : Nat → va_W} {lvf : Nat → List (Nat × Value)} (inv : Nat → Prop) (n : Nat) (hw : wsf n = ws) (hl : lvf n = lv) (hi : inv n) (h0 : inv 0 → Z p l e R s m args below meth c D nL G A Q (wsf 0) (lvf 0) cells slots pc st) (hs : ∀ k, k < n → (inv k → Z p l e R s m args below meth c D nL G A Q (wsf k) (lvf k) cells slots pc st) → inv (k + 1) → Z p l e R s m args below meth c D nL G A Q (wsf (k + 1)) (lvf (k + 1)) cells slots pc st) : Z p l e R s m args below meth c D nL G A Q ws lv cells slots pc st := by
  subst hw hl
  have key : ∀ k, k ≤ n → inv k → Z p l e R s m args below meth c D nL G A Q (wsf k) (lvf k) cells slots pc st := by
    intro k
    induction k with
    | zero => exact fun _ h => h0 h
    | succ k ih => exact fun hk h => hs k (by omega) (fun h' => ih (by omega) h') h
  exact key n (Nat.le_refl _) hi
theorem z_loopI {wsf : Nat → va_W} {lvf : Nat → List (Nat × Value)} (inv : Nat → Prop) (n : Nat) (hw : wsf 0 = ws) (hl : lvf 0 = lv) (hi : inv 0) (h0 : inv n → Z p l e R s m args below meth c D nL G A Q (wsf n) (lvf n) cells slots pc st) (hs : ∀ k, k < n → (inv (k + 1) → Z p l e R s m args below meth c D nL G A Q (wsf (k + 1)) (lvf (k + 1)) cells slots pc st) → inv k → Z p l e R s m args below meth c D nL G A Q (wsf k) (lvf k) cells slots pc st) : Z p l e R s m args below meth c D nL G A Q ws lv cells slots pc st := by
  subst hw hl
  exact z_down (P := fun k => inv k → Z p l e R s m args below meth c D nL G A Q (wsf k) (lvf k) cells slots pc st) n h0 hs 0 (Nat.zero_le _) hi

/-- a loop without a counter: a measure falls -/
theorem z_rec {σ : Type} {wsf : σ → va_W} {lvf : σ → List (Nat × Value)} (μ : σ → Nat) (inv : σ → Prop) (x0 : σ) (hw : wsf x0 = ws) (hl : lvf x0 = lv) (hi : inv x0) (hs : ∀ x, (∀ y, μ y < μ x → inv y → Z p l e R s m args below meth c D nL G A Q (wsf y) (lvf y) cells slots pc st) → inv x → Z p l e R s m args below meth c D nL G A Q (wsf x) (lvf x) cells slots pc st) : Z p l e R s m args below meth c D nL G A Q ws lv cells slots pc st := by
  subst hw hl
  have key : ∀ d x, μ x < d → inv x → Z p l e R s m args below meth c D nL G A Q (wsf x) (lvf x) cells slots pc st := by
    intro d
    induction d with
    | zero => exact fun x h => absurd h (Nat.not_lt_zero _)
    | succ d ih => exact fun x h hi => hs x (fun y hy hiy => ih y (by omega) hiy) hi
  exact key _ x0 (Nat.lt_succ_self _) hi
theorem z_cmpGN (K : z_K p l s m args meth c G A D tys cc nL ret Ts own) {off : Int} {x y : Int32} (tgt a b : Nat) (hdg : decode cc pc = .ok (.if_icmp .gt off, 3)) (ht : (pc : Int) + off = (tgt : Int)) (hx : x = nI a) (hy : y = nI b) (ha : a < 2 ^ 31) (hb : b < 2 ^ 31) (kt : b < a → Z p l e R s m args below meth c D nL G A Q ws lv cells slots tgt st) (kf : a ≤ b → Z p l e R s m args below meth c D nL G A Q ws lv cells slots (pc + 3) st) : Z p l e R s m args below meth c D nL G A Q ws lv cells slots pc (.int y :: .int x :: st) := by
  subst hx hy
  exact z_icmp_gt K tgt hdg ht (fun h => kt ((nI_ltI hb ha).mp h)) (fun h => kf (Nat.le_of_not_lt (fun q => h ((nI_ltI hb ha).mpr q))))
theorem z_lvE {lv' : List (Nat × Value)} (h : lv = lv') (kk : Z p l e R s m args below meth c D nL G A Q ws lv' cells slots pc st) : Z p l e R s m args below meth c D nL G A Q ws lv cells slots pc st := by rw [h]; exact kk
theorem z_dconst0 (K : z_K p l s m args meth c G A D tys cc nL ret Ts own) (hdg : decode cc pc = .ok (.dconst 0, 1)) (kk : Z p l e R s m args below meth c D nL G A Q ws lv cells slots (pc + 1) (.double 0 :: st)) : Z p l e R s m args below meth c D nL G A Q ws lv cells slots pc st := fun H locs ls hP hD hS hl => lv_dconst0 K.1 K.2.1 hdg (kk H locs ls hP hD hS hl)

/-! new cells: constructors, arrays -/
theorem z_putF (K : z_K p l s m args meth c G A D tys cc nL ret Ts own) {C ref : String} {T : u_T} {N ci index : Nat} (hin : ∀ w ∈ u_ws C T N, w ∈ Ts) (hc : vwCl[ci]? = some (C, T, N)) (ty0 : Nat → FieldType) (hty : ∀ k, k < N → parseFieldDescriptor (T k).2.2.1 = some (ty0 k)) (hnm : ∀ a, a < N → ∀ b, b < N → a ≠ b → (T a).2.1 ≠ (T b).2.1) (q0 : Nat) {a : Nat} {fs : List Value} (he : ws[q0]? = some (a, .inr (ci, fs))) (k : Nat) (hk : k < N) (hw : Cond.fieldLink own index ref (T k).2.1 (T k).2.2.1 ∈ Ts) (hsame : (T k).1 = ref) (hfin : (T k).2.2.2 = true) (hin2 : meth.name = "<init>") (hdecl : (T k).1 = own) {v : Value} (hn : narrow (ty0 k) v = v) (hfit : fits (ty0 k) v = true) (hl0 : k < fs.length) (hA : A a) {ws' : va_W} (hws : ws.set q0 (a, .inr (ci, fs.set k v)) = ws') (hdg : decode cc pc = .ok (.putfield index, 3)) (kk : Z p l e R s m args below meth c D nL G A Q ws' lv cells slots (pc + 3) st) : Z p l e R s m args below meth c D nL G A Q ws lv cells slots pc (v :: .ref a :: st) := by
  intro H locs ls hP hD hS hl
  subst hws
  have hts := K.2.2.2.2.1
  have hap := va_apart (own := own) hts hin ty0 hty hnm K.2.2.2.2.2.1 hc
  obtain ⟨r, h1, cell, q1, q2, q3, q4⟩ := hP q0 _ he
  have hr : r = (C, T, N) := Option.some.inj (h1.symm.trans hc)
  subst hr
  obtain ⟨hSl, hfc, kC, hkC, hkind⟩ := K.2.2.2.2.2.1.1 ci _ hc
  obtain ⟨cf, kf, fi, f, hi, hsl⟩ := hSl k hk
  have hlay := hts _ (hin _ (u_in_lay hk))
  unfold u_lay at hlay
  rw [if_pos hfin] at hlay
  have hst := (u_facts hfc hkC (u_lays hts hin hk) hi).1
  have hi2 : s.fieldFound? ref (T k).2.1 (T k).2.2.1 = some (cf, kf, fi, f) := by rw [← hsame]; exact hi
  have hcf : m.cls = cf := by
    obtain ⟨_, _, c', _, _, _, -, -, hf', -, -, -, hown2, -⟩ := Cond.laysFinal_spec hlay
    have e1 : c' = cf := by have := hi.symm.trans hf'; simp at this; exact this.1.symm
    rw [hdecl] at hown2
    rw [← e1]; exact Option.some.inj (K.2.2.2.1.symm.trans hown2)
  have h6 := u_fits hfc hkC hkind (Or.inr hlay) hi (hty k hk) hn hfit
  refine W.putFinK K.1 K.2.1 K.2.2.2.1 (hts _ hw) hi2 hst hcf hin2 (by rw [q2]; exact h6) q1 q3 (by rw [hsl]; exact k2_hasslot (q4 k hk)) rfl rfl hdg fun H' e1 e2 e3 => ?_
  rw [hsl] at e1 ⊢
  exact kk H' _ ls (hP.set hD he ⟨_, hc, t_OB.to (V := updV (vp_V fs) k v) ⟨_, e1, q2, q3, t_set q4 hap hk v⟩ (fun j _ => vp_updV_set hl0 v j)⟩ e3) (hD.set he) (hS.put e2 e3 hA) hl
theorem z_objInit (K : z_K p l s m args meth c G A D tys cc nL ret Ts own) {index : Nat} (h1 : Cond.methodLink own index Lib.objectInit ∈ Ts) (h2 : Cond.instanceMethod Lib.objectInit ∈ Ts) (h3 : Cond.code Lib.objectInit ⟨#[0xb1]⟩ 1 none ∈ Ts) {a : Nat} (hdg : decode cc pc = .ok (.invokespecial index, 3)) (hf : 1 ≤ R.frames) (hloc : (st.map fun v => v.category).sum + 12 ≤ R.locals) (kk : Z p l e R s m args below meth c D nL G A Q ws lv cells slots (pc + 3) st) : Z p l e R s m args below meth c D nL G A Q ws lv cells slots pc (.ref a :: st) := fun H locs ls hP hD hS hl =>
  W.objInit K.1 K.2.1 K.2.2.2.1 (K.2.2.2.2.1 _ h1) (K.2.2.2.2.1 _ h2) (K.2.2.2.2.1 _ h3) rfl (by rw [K.2.2.1]; exact hl.1) rfl hdg hf (by show 2 * 0 + _ + 12 ≤ _; omega) (kk H locs ls hP hD hS hl)
/-- a new array of ints: the class of the tables -/
theorem z_newI (K : z_K p l s m args meth c G A D tys cc nL ret Ts own) (harr : Cond.arrayClass .int ∈ Ts) (t0 : Nat) {cI : ClassId} (ht : tys[t0]? = some (cI, .int)) {n : Int32} (N : Nat) (hn : n = nI N) (hN : N < 65536) (hdg : decode cc pc = .ok (.newarray .int, 2)) (hcc : cells + 1 ≤ R.cells) (hsl : slots + N ≤ R.slots) (kk : ∀ q : Nat, s.heap.size ≤ q → Z p l e R s m args below meth c D nL G A Q (ws ++ [(q, .inl (cI, N, .inl (fun _ => 0)))]) lv (cells + 1) (slots + N) (pc + 2) (.ref q :: st)) : Z p l e R s m args below meth c D nL G A Q ws lv cells slots pc (.int n :: st) := by
  intro H locs ls hP hD hS hl
  subst hn
  have hfI : s.vm.findClass ("[" ++ (FieldType.int).toString) = some cI := (K.2.2.2.2.2.1.2 t0 _ ht).2
  refine va_newaK K.1 K.2.1 (atype := .int) (K.2.2.2.2.1 _ harr) rfl hdg (n := nI N) (N := N) (rest := st) rfl (nI_pos (by omega)) (nI_clamp (by omega)) (by show N * 4 ≤ _; omega) hcc hsl rfl ?_
  intro H' cA h1 h2 h3 h4 h5
  have e : cA = cI := Option.some.inj (h5.symm.trans hfI)
  subst e
  have hq : s.heap.size ≤ H.size := hS.1
  have hP' : va_P D vwCl ws H' := hP.kept (fun k q hk => h3 q.1 (hP k q hk).lt)
  refine kk H.size hq H' locs ls ?_ (hD.push hP rfl (K.2.2.2.2.2.2.2.2.1.2.2.1 _ hq)) ⟨by omega, fun q g1 g2 => by rw [h3 q (by omega)]; exact hS.2.1 q g1 g2, hS.2.2⟩ hl
  refine va_P.app hP' ?_
  intro k q hk
  have hz : k < 1 := (List.getElem?_eq_some_iff.mp hk).1
  rw [show k = 0 by omega] at hk
  cases hk
  show H'[H.size]? = some (vp_cell _ _)
  rw [h1]; rfl
theorem z_loopC {wsf : Nat → va_W} {lvf : Nat → List (Nat × Value)} (cf sf : Nat → Nat) (n : Nat) (hw : wsf 0 = ws) (hl : lvf 0 = lv) (hc : cf 0 = cells) (hsl : sf 0 = slots) (h0 : Z p l e R s m args below meth c D nL G A Q (wsf n) (lvf n) (cf n) (sf n) pc st) (hs : ∀ k, k < n → Z p l e R s m args below meth c D nL G A Q (wsf (k + 1)) (lvf (k + 1)) (cf (k + 1)) (sf (k + 1)) pc st → Z p l e R s m args below meth c D nL G A Q (wsf k) (lvf k) (cf k) (sf k) pc st) : Z p l e R s m args below meth c D nL G A Q ws lv cells slots pc st := by
  subst hw hl hc hsl
  exact z_down (P := fun k => Z p l e R s m args below meth c D nL G A Q (wsf k) (lvf k) (cf k) (sf k) pc st) n h0 hs 0 (Nat.zero_le _)

end ZENDS
end
section
section ZSIM
variable {p : Program} {l : Launch} {e : Env} {R : Room} {s : State} {m : MethodId} {args : Array Value} {below : List Frame} {meth : Method} {c : Code} {D : va_G} {nL : Nat} {G A : Nat → Prop} {Q : State → Prop} {ws : va_W} {lv : List (Nat × Value)} {cells slots pc : Nat} {st : List Value} {cc : ByteArray} {ret : Option FieldType} {Ts : List Cond} {own : String} {tys : List (ClassId × FieldType)}
/-! arrays of truths, arrays of arrays -/
theorem z_zald (K : z_K p l s m args meth c G A D tys cc nL ret Ts own) (q0 t0 k : Nat) {a : Nat} {cA : ClassId} {n : Nat} {f : Nat → Int32} (ha : ws[q0]? = some (a, .inl (cA, n, .inl f))) (ht : tys[t0]? = some (cA, .boolean)) (hk : k < n) (hn : n < 2 ^ 31) (hdg : decode cc pc = .ok (.baload, 1)) {x : Int32} (hx : f k = x) (kk : Z p l e R s m args below meth c D nL G A Q ws lv cells slots (pc + 1) (.int x :: st)) : Z p l e R s m args below meth c D nL G A Q ws lv cells slots pc (.int (nI k) :: .ref a :: st) := fun H locs ls hP hD hS hl => va_zald K.1 K.2.1 K.2.2.2.2.2.1 hP q0 t0 ha ht (vp_in_nI hk hn) hdg (by rw [nI_clamp (Nat.lt_trans hk hn), hx]; exact kk H locs ls hP hD hS hl)
theorem z_zast (K : z_K p l s m args meth c G A D tys cc nL ret Ts own) (q0 t0 k : Nat) {a : Nat} {cA : ClassId} {n : Nat} {f : Nat → Int32} {b : Bool} {x : Int32} (hx : x = z_b b) (ha : ws[q0]? = some (a, .inl (cA, n, .inl f))) (ht : tys[t0]? = some (cA, .boolean)) (hk : k < n) (hn : n < 2 ^ 31) (hdg : decode cc pc = .ok (.bastore, 1)) (hA : A a) {ws' : va_W} (hws : ws.set q0 (a, .inl (cA, n, .inl (upd f k (z_b b)))) = ws') (kk : Z p l e R s m args below meth c D nL G A Q ws' lv cells slots (pc + 1) st) : Z p l e R s m args below meth c D nL G A Q ws lv cells slots pc (.int x :: .int (nI k) :: .ref a :: st) := by
  intro H locs ls hP hD hS hl
  subst hws hx
  have hj : (nI k).toNatClampNeg = k := nI_clamp (Nat.lt_trans hk hn)
  refine W.zast K.1 K.2.1 (hP q0 _ ha) ((K.2.2.2.2.2.1.2 t0 _ ht).1 n (fun j => .int (f j))) (fun q => by cases q) (by show ¬ (nI k < 0 ∨ (arrV _ _ _).slots.size ≤ _); rw [arrV_size]; exact vp_in_nI hk hn) rfl rfl hdg fun H1 e z oq => ?_
  refine kk H1 _ ls (hP.set hD ha ?_ oq) (hD.set ha) (hS.put z oq hA) hl
  show H1[a]? = some (vp_cell _ _)
  rw [e, hj]
  rw [vp_cell_i, vp_cell_i, arrV_store]
  show some (arrV cA n _) = some (arrV cA n _)
  congr 2
  funext q
  have hnb : narrow .boolean (.int (z_b b)) = .int (z_b b) := by cases b <;> rfl
  by_cases hq : q = k
  · subst hq
    simp [updV, upd, hnb]
  · simp [updV, upd, hq]
theorem z_aald (K : z_K p l s m args meth c G A D tys cc nL ret Ts own) (q0 t0 k : Nat) {a : Nat} {cA : ClassId} {ty : FieldType} {n : Nat} {f : Nat → Option Nat} (ha : ws[q0]? = some (a, .inl (cA, n, .inr (.inr (.inr (.inr f)))))) (ht : tys[t0]? = some (cA, ty)) (hty : ty.isReference = true) (hk : k < n) (hn : n < 2 ^ 31) {y : Nat} (hy : f k = some y) (hdg : decode cc pc = .ok (.aaload, 1)) (kk : Z p l e R s m args below meth c D nL G A Q ws lv cells slots (pc + 1) (.ref y :: st)) : Z p l e R s m args below meth c D nL G A Q ws lv cells slots pc (.int (nI k) :: .ref a :: st) := fun H locs ls hP hD hS hl => by
  have hj : (nI k).toNatClampNeg = k := nI_clamp (Nat.lt_trans hk hn)
  exact W.aald (v := .ref y) (ty := ty) K.1 K.2.1 (hP q0 _ ha) ((K.2.2.2.2.2.1.2 t0 _ ht).1 n (fun j => va_rf (f j))) hty (fun q => by cases q) (by show ¬ (nI k < 0 ∨ (arrV _ _ _).slots.size ≤ _); rw [arrV_size]; exact vp_in_nI hk hn) (by show (arrV _ _ _).slots[_]? = _; rw [hj, arrV_read _ _ hk, hy]; rfl) rfl rfl hdg (kk H locs ls hP hD hS hl)
theorem z_aast (K : z_K p l s m args meth c G A D tys cc nL ret Ts own) {t : FieldType} (hAO : va_AOA t s) (q0 q1 t0 k : Nat) {a v : Nat} {cA cB : ClassId} {n : Nat} {f : Nat → Option Nat} {x : vp_A} (ha : ws[q0]? = some (a, .inl (cA, n, .inr (.inr (.inr (.inr f)))))) (ht : tys[t0]? = some (cA, .array t)) (hv : ws[q1]? = some (v, .inl (cB, x))) (hcB : s.vm.findClass (FieldType.array t).toString = some cB) (hk : k < n) (hn : n < 2 ^ 31) (hdg : decode cc pc = .ok (.aastore, 1)) (hA : A a) {ws' : va_W} (hws : ws.set q0 (a, .inl (cA, n, .inr (.inr (.inr (.inr (va_up f k (some v))))))) = ws') (kk : Z p l e R s m args below meth c D nL G A Q ws' lv cells slots (pc + 1) st) : Z p l e R s m args below meth c D nL G A Q ws lv cells slots pc (.ref v :: .int (nI k) :: .ref a :: st) := by
  intro H locs ls hP hD hS hl
  subst hws
  have hj : (nI k).toNatClampNeg = k := nI_clamp (Nat.lt_trans hk hn)
  obtain ⟨comp, c0, kA, g1, -, g3, g4, g5⟩ := arrayOverA_spec hAO
  have e0 : c0 = cA := Option.some.inj (g5.symm.trans (K.2.2.2.2.2.1.2 t0 _ ht).2)
  have e1 : comp = cB := Option.some.inj (g1.symm.trans hcB)
  subst e0 e1
  obtain ⟨kB, hkB, -⟩ := Vm.findClass_spec hcB
  have hvm0 : (vp_cell comp x).vm = .none := by
    obtain ⟨n, f | f | f | f | f⟩ := x <;> rfl
  have hcl0 : (vp_cell comp x).cls = comp := by
    obtain ⟨n, f | f | f | f | f⟩ := x <;> rfl
  refine W.aast K.1 K.2.1 (hP q0 _ ha) (fun q h => by cases h) (fun h => by cases h) g3 g4 rfl hkB ⟨nI_pos (Nat.lt_trans hk hn), by show _ < (arrV _ _ _).slots.size; rw [arrV_size, hj]; exact hk⟩ (hP q1 _ hv) (fun q h => by rw [hvm0] at h; cases h) (by rw [hcl0]; exact hkB) (by rw [hcl0]; exact va_asg _ _) rfl rfl hdg fun H1 e z oq => ?_
  refine kk H1 _ ls (hP.set hD ha ?_ oq) (hD.set ha) (hS.put z oq hA) hl
  show H1[a]? = some (vp_cell _ _)
  rw [e, hj]
  rw [vp_cell_q, vp_cell_q, arrV_store]
  show some (arrV c0 n _) = some (arrV c0 n _)
  congr 2
  funext q
  by_cases hq : q = k
  · subst hq
    simp [updV, va_up, va_rf]
  · simp [updV, va_up, hq]
/-- the cell that has just been made -/
theorem z_born {H H1 : Heap} {e : va_E} {locs : List Loc} (K : z_K p l s m args meth c G A D tys cc nL ret Ts own) (hP : va_P D vwCl ws H) (hD : va_D G ws) (hS : va_S A s.heap H locs) (z1 : H1.size = H.size + 1) (o1 : ∀ q : Nat, q < H.size → H1[q]? = H[q]?) (h1 : va_at D vwCl (H.size, e) H1) : va_P D vwCl (ws ++ [(H.size, e)]) H1 ∧ va_D G (ws ++ [(H.size, e)]) ∧ va_S A s.heap H1 locs := by
  have hq : s.heap.size ≤ H.size := hS.1
  refine ⟨va_P.app (hP.kept (fun k q hk => o1 q.1 (hP k q hk).lt)) ?_, hD.push hP rfl (K.2.2.2.2.2.2.2.2.1.2.2.1 _ hq), ⟨by omega, fun q g1 g2 => by rw [o1 q (by omega)]; exact hS.2.1 q g1 g2, hS.2.2⟩⟩
  intro k q hk
  have hz : k < 1 := (List.getElem?_eq_some_iff.mp hk).1
  rw [show k = 0 by omega] at hk
  cases hk
  exact h1
theorem z_newZ (K : z_K p l s m args meth c G A D tys cc nL ret Ts own) (harr : Cond.arrayClass .boolean ∈ Ts) (t0 : Nat) {cZ : ClassId} (ht : tys[t0]? = some (cZ, .boolean)) {n : Int32} (N : Nat) (hn : n = nI N) (hN : N < 65536) (hdg : decode cc pc = .ok (.newarray .boolean, 2)) (hcc : cells + 1 ≤ R.cells) (hsl : slots + N ≤ R.slots) (kk : ∀ q : Nat, s.heap.size ≤ q → Z p l e R s m args below meth c D nL G A Q (ws ++ [(q, .inl (cZ, N, .inl (fun _ => 0)))]) lv (cells + 1) (slots + N) (pc + 2) (.ref q :: st)) : Z p l e R s m args below meth c D nL G A Q ws lv cells slots pc (.int n :: st) := by
  intro H locs ls hP hD hS hl
  subst hn
  have hfI : s.vm.findClass ("[" ++ (FieldType.boolean).toString) = some cZ := (K.2.2.2.2.2.1.2 t0 _ ht).2
  refine va_newaK K.1 K.2.1 (atype := .boolean) (K.2.2.2.2.1 _ harr) rfl hdg (n := nI N) (N := N) (rest := st) rfl (nI_pos (by omega)) (nI_clamp (by omega)) (by show N * 1 ≤ _; omega) hcc hsl rfl ?_
  intro H' cA h1 h2 h3 h4 h5
  have e : cA = cZ := Option.some.inj (h5.symm.trans hfI)
  subst e
  obtain ⟨g1, g2, g3⟩ := z_born (e := .inl (cA, N, .inl (fun _ => 0))) K hP hD hS h2 h3 (by show H'[H.size]? = some (vp_cell _ _); rw [h1]; rfl)
  exact kk H.size hS.1 H' locs ls g1 g2 g3 hl
theorem z_newA (K : z_K p l s m args meth c G A D tys cc nL ret Ts own) {t : FieldType} {index : Nat} (hcl : Cond.classLink own index (FieldType.array t).toString ∈ Ts) (hAO : va_AOA t s) (t0 : Nat) {cQ : ClassId} (ht : tys[t0]? = some (cQ, .array t)) {n : Int32} (N : Nat) (hn : n = nI N) (hN : N < 65536) (hdg : decode cc pc = .ok (.anewarray index, 3)) (hcc : cells + 1 ≤ R.cells) (hsl : slots + N ≤ R.slots) (kk : ∀ q : Nat, s.heap.size ≤ q → Z p l e R s m args below meth c D nL G A Q (ws ++ [(q, .inl (cQ, N, .inr (.inr (.inr (.inr (fun _ => none))))))]) lv (cells + 1) (slots + N) (pc + 3) (.ref q :: st)) : Z p l e R s m args below meth c D nL G A Q ws lv cells slots pc (.int n :: st) := by
  intro H locs ls hP hD hS hl
  subst hn
  have hj : (nI N).toNatClampNeg = N := nI_clamp (by omega)
  refine W.anewA K.1 K.2.1 K.2.2.2.1 (K.2.2.2.2.1 _ hcl) (va_AOA.use hAO) rfl hdg rfl (nI_pos (by omega)) (by rw [hj]; omega) hcc (by rw [hj]; exact hsl) fun cA kA comp f1 f2 f3 f4 => ?_
  rw [hj]
  have e : cA = cQ := Option.some.inj (f1.symm.trans (K.2.2.2.2.2.1.2 t0 _ ht).2)
  subst e
  obtain ⟨g1, g2, g3⟩ := z_born (e := .inl (cA, N, .inr (.inr (.inr (.inr (fun _ => none)))))) K hP hD hS (H1 := H.push ({ cls := cA, slots := Array.replicate N .null, vm := .none } : Cell)) (by rw [Array.size_push]) (fun q hq => by rw [Array.getElem?_push, if_neg (Nat.ne_of_lt hq)]) (by show (H.push _)[H.size]? = some (vp_cell _ _); rw [Array.getElem?_push_size, arrV_new]; rfl)
  exact kk H.size hS.1 _ locs ls g1 g2 g3 hl
/-- rows of one kind, by their numbers -/
def sm_rows (L : Nat) (r : Nat → Nat) (x : Nat → va_E) : va_W := (List.range L).map (fun k => (r k, x k))
def sm_ref (L : Nat) (r : Nat → Nat) : Nat → Option Nat := fun i => if i < L then some (r i) else none
/-- a row of truths, as an array holds it -/
def rw1 (F : Nat → Bool) : Nat → Int32 := fun j => z_b (F j)
/-- an array of arrays of truths -/
def gridW (cW cZ : ClassId) (q L M : Nat) (r : Nat → Nat) (T : Nat → Nat → Bool) : va_W := (q, .inl (cW, L, .inr (.inr (.inr (.inr (sm_ref L r)))))) :: sm_rows L r (fun g => .inl (cZ, M, .inl (rw1 (T g))))
/-- new boolean[N][M] -/
theorem z_mna (K : z_K p l s m args meth c G A D tys cc nL ret Ts own) {index : Nat} (hcl : Cond.classLink own index ("[" ++ (FieldType.array .boolean).toString) ∈ Ts) (harr : Cond.arrayClass .boolean ∈ Ts) (hAO : va_AOA .boolean s) (t0 t1 : Nat) {cA cy : ClassId} (ht0 : tys[t0]? = some (cA, .array .boolean)) (ht1 : tys[t1]? = some (cy, .boolean)) {n k : Int32} (N M : Nat) (hn : n = nI N) (hm : k = nI M) (hN : N < 65536) (hM : M < 65536) (hcc : cells + (1 + N) ≤ R.cells) (hsl : slots + (N + N * M) ≤ R.slots) (hdg : decode cc pc = .ok (.multianewarray index 2, 4))
    (kk : ∀ (q : Nat) (r : Nat → Nat), s.heap.size ≤ q → (∀ i, i < N → s.heap.size ≤ r i) → Z p l e R s m args below meth c D nL G A Q (ws ++ gridW cA cy q N M r (fun _ _ => false)) lv (cells + (1 + N)) (slots + (N + N * M)) (pc + 4) (.ref q :: st)) : Z p l e R s m args below meth c D nL G A Q ws lv cells slots pc (.int k :: .int n :: st) := by
  intro H locs ls hP hD hS hl T hT Xs
  subst hn hm
  have hjN : (nI N).toNatClampNeg = N := nI_clamp (by omega)
  have hjM : (nI M).toNatClampNeg = M := nI_clamp (by omega)
  have hcy : s.vm.findClass (FieldType.array .boolean).toString = some cy := (K.2.2.2.2.2.1.2 t1 _ ht1).2
  have hts := K.2.2.2.2.1
  obtain ⟨vm₁, cA', comp, -, fA, fC, hO, -, X', step⟩ := Xs.multianewarray2F (ty := .boolean) K.1 K.2.2.2.1 (hts _ hcl) (va_AOA.use hAO) (hts _ harr) (g := F0 m pc ls (.int (nI M) :: .int (nI N) :: st)) rfl (by rw [K.2.1]; exact hdg) rfl (nI_pos (by omega)) (nI_pos (by omega)) (by rw [hjN]; omega) (by rw [hjM]; show M * 1 ≤ _; omega) (by rw [hjM]; omega) rfl rfl (by rw [hjN]; exact hcc) (by rw [hjN, hjM]; exact hsl)
  rw [hjN, hjM] at X' step
  have ec : cy = comp := Option.some.inj (hcy.symm.trans fC)
  have ea : cA' = cA := Option.some.inj (fA.symm.trans (K.2.2.2.2.2.1.2 t0 _ ht0).2)
  subst ec ea
  generalize hF : Jvm.Free.Multi.fill (T.setVm vm₁) cA' cy N M (defaultValue .boolean) N = F at X' step
  have hTh : (T.setVm vm₁).heap = H := hT
  obtain ⟨f1, f2, -, -⟩ := Jvm.Free.Multi.fill_facts (T.setVm vm₁) cA' cy N M (defaultValue .boolean) N
  rw [hF, hTh] at f1 f2
  have hold : ∀ x : Nat, x < H.size → F.heap[x]? = H[x]? := fun x hx => by
    have := Jvm.Free.Multi.fill_old (T.setVm vm₁) cA' cy N M (defaultValue .boolean) (a := x) (by rw [hTh]; exact hx) N
    rw [hF, hTh] at this
    exact this
  have hz : Jvm.Free.Multi.innerC cy M (defaultValue .boolean) = vp_cell cy (M, .inl (fun _ => 0)) := by
    rw [vp_cell_i]
    exact arrV_new cy M (.int 0)
  have hrow : ∀ j : Nat, j < N → F.heap[H.size + 1 + j]? = some (vp_cell cy (M, .inl (fun _ => 0))) := fun j hj => by
    have := Jvm.Free.Multi.fill_inner (T.setVm vm₁) cA' cy N M (defaultValue .boolean) N j hj
    rw [hF, hTh, hz] at this
    exact this
  have hout : Jvm.Free.Multi.outerC cA' N H.size N = vp_cell cA' (N, .inr (.inr (.inr (.inr (sm_ref N (fun i => H.size + 1 + i)))))) := by
    rw [vp_cell_q]
    exact vr_outer cA' N H.size N
  rw [hout] at f2
  have hq : s.heap.size ≤ H.size := hS.1
  have hGs := K.2.2.2.2.2.2.2.2.1.2.2.1
  have hz0 : rw1 (fun _ => false) = fun _ => 0 := rfl
  have hnew : ∀ (k9 : Nat) (x : Nat × va_E), (gridW cA' cy H.size N M (fun i => H.size + 1 + i) (fun _ _ => false))[k9]? = some x → x.1 = H.size + k9 ∧ va_at D vwCl x F.heap := fun k9 x hx => by
    cases k9 with
    | zero =>
      cases hx
      exact ⟨rfl, f2⟩
    | succ j =>
      have hx' : (sm_rows N (fun i => H.size + 1 + i) (fun _ => .inl (cy, M, .inl (fun _ => 0))))[j]? = some x := hx
      unfold sm_rows at hx'
      rw [List.getElem?_map] at hx'
      by_cases h9 : j < N
      · rw [List.getElem?_range h9] at hx'
        cases hx'
        exact ⟨by show H.size + 1 + j = _; omega, hrow j h9⟩
      · have hn0 : (List.range N)[j]? = none := List.getElem?_eq_none (by rw [List.length_range]; omega)
        rw [hn0] at hx'
        cases hx'
  have hP1 := va_P.app (hP.kept (fun k9 x hx => hold x.1 ((hP k9 x hx).lt))) (fun k9 x hx => (hnew k9 x hx).2)
  have hD1 : va_D G (ws ++ gridW cA' cy H.size N M (fun i => H.size + 1 + i) (fun _ _ => false)) := by
    refine ⟨fun i j x y hi hj hxy => ?_, fun k9 x hx => ?_⟩
    · by_cases h1 : i < ws.length <;> by_cases h2 : j < ws.length
      · rw [List.getElem?_append_left h1] at hi
        rw [List.getElem?_append_left h2] at hj
        exact hD.1 i j x y hi hj hxy
      · rw [List.getElem?_append_left h1] at hi
        rw [List.getElem?_append_right (by omega)] at hj
        have := (hP _ _ hi).lt
        have := (hnew _ _ hj).1
        omega
      · rw [List.getElem?_append_right (by omega)] at hi
        rw [List.getElem?_append_left h2] at hj
        have := (hP _ _ hj).lt
        have := (hnew _ _ hi).1
        omega
      · rw [List.getElem?_append_right (by omega)] at hi hj
        have := (hnew _ _ hi).1
        have := (hnew _ _ hj).1
        omega
    · by_cases h1 : k9 < ws.length
      · rw [List.getElem?_append_left h1] at hx
        exact hD.2 k9 x hx
      · rw [List.getElem?_append_right (by omega)] at hx
        have := (hnew _ _ hx).1
        exact hGs _ (by omega)
  obtain ⟨t, a1, b1⟩ := kk H.size (fun i => H.size + 1 + i) hq (fun i _ => by omega) F.heap locs ls hP1 hD1 ⟨by rw [f1]; omega, fun x h1 h2 => (hold x (Nat.lt_of_lt_of_le h1 hq)).trans (hS.2.1 x h1 h2), hS.2.2⟩ hl F rfl (by rw [← Nat.add_assoc, ← Nat.add_assoc]; exact X')
  refine ⟨t, step t ?_, b1⟩
  have e : T.heap.size = H.size := by rw [hT]
  rw [e]
  exact a1
/-- an array's clone, and the cast of what it answers -/
theorem z_clone (K : z_K p l s m args meth c G A D tys cc nL ret Ts own) {index : Nat} (hlink : Cond.methodLink own index ⟨"[Z", "clone", "()Ljava/lang/Object;"⟩ ∈ Ts) (hsame : Cond.sameMethod "[Z" "java/lang/Object" "clone" "()Ljava/lang/Object;" ∈ Ts) (hnat : Cond.native ⟨"java/lang/Object", "clone", "()Ljava/lang/Object;"⟩ ∈ Ts) (hinst : Cond.instanceMethod ⟨"java/lang/Object", "clone", "()Ljava/lang/Object;"⟩ ∈ Ts) (hsel : Cond.selects "[Z" ⟨"[Z", "clone", "()Ljava/lang/Object;"⟩ ⟨"java/lang/Object", "clone", "()Ljava/lang/Object;"⟩ ∈ Ts)
    (q0 t0 : Nat) {a : Nat} {cA : ClassId} {N : Nat} {f : Nat → Bool} (ha : ws[q0]? = some (a, .inl (cA, N, .inl (fun j => z_b (f j))))) (ht : tys[t0]? = some (cA, .boolean)) (hframes : 1 ≤ R.frames) (hlocals : (st.map fun v => v.category).sum + 14 ≤ R.locals) (hcc : cells + 1 ≤ R.cells) (hsl : slots + N ≤ R.slots) (hdg : decode cc pc = .ok (.invokevirtual index, 3))
    (kk : ∀ q : Nat, s.heap.size ≤ q → Z p l e R s m args below meth c D nL G A Q (ws ++ [(q, .inl (cA, N, .inl (fun j => z_b (f j))))]) lv (cells + 1) (slots + N) (pc + 3) (.ref q :: st)) : Z p l e R s m args below meth c D nL G A Q ws lv cells slots pc (.ref a :: st) := by
  intro H locs ls hP hD hS hl T hT X
  have hts := K.2.2.2.2.1
  have hnm : s.vm.findClass "[Z" = some cA := (K.2.2.2.2.2.1.2 t0 _ ht).2
  obtain ⟨c0, t0', f1, f2, f3⟩ := Cond.castable_spec (va_Nw.use (A := args) rfl K.2.2.2.2.2.2.2.2.1.2.2.2.2.2.2)
  cases hnm.symm.trans f1
  have hcellT : T.heap[a]? = some (vp_cell cA (N, .inl (fun j => z_b (f j)))) := by rw [hT]; exact hP q0 _ ha
  obtain ⟨-, kA, hkA, comp, hkind⟩ := State.isArrayOf_alike X.warmed.alike ((K.2.2.2.2.2.1.2 t0 _ ht).1 0 (fun _ => .null))
  obtain ⟨-, kS, hkS, compS, hkindS⟩ := (K.2.2.2.2.2.1.2 t0 _ ht).1 0 (fun _ => .null)
  have hsz : (vp_cell cA (N, .inl (fun j => z_b (f j)))).slots.size = N := arrV_size _ _ _
  have hfit : ∀ (i : Nat) (v : Value), (vp_cell cA (N, .inl (fun j => z_b (f j)))).slots[i]? = some v → fits .boolean v = true := va_fit (fun i _ => by show fits .boolean (.int (z_b (f i))) = true; cases f i <;> rfl)
  obtain ⟨vm', X', stp⟩ := X.cloneArray K.1 K.2.2.2.1 (hts _ hlink) (hts _ hsame) (hts _ hnat) (hts _ hinst) (hts _ hsel) (a := a) (cell := vp_cell cA (N, .inl (fun j => z_b (f j)))) hcellT (fun k h => by cases h) (fun h => by cases h) hnm f2 f3
    (fun i v hv => by
      have hk' : T.vm.classes[cA]? = some kA := hkA
      simpa [State.fitsSlot, State.slotType?, vp_cell, arrV, hk', hkind] using hfit i v hv)
    (g := F0 m pc ls (.ref a :: st)) rfl (by rw [K.2.2.1]; exact hl.1) rfl (by rw [K.2.1]; exact hdg) hframes (by show 2 * 0 + _ + 14 ≤ _; omega) hcc (by rw [hsz]; exact hsl) (hloader := Vm.clonesLoader_of_array hkS hkindS)
  rw [hsz] at X'
  have hcellE : ({ cls := (vp_cell cA (N, .inl (fun j => z_b (f j)))).cls, slots := (vp_cell cA (N, .inl (fun j => z_b (f j)))).slots } : Cell) = vp_cell cA (N, .inl (fun j => z_b (f j))) := rfl
  rw [hcellE] at X' stp
  obtain ⟨g1, g2, g3⟩ := z_born (e := .inl (cA, N, .inl (fun j => z_b (f j)))) K hP hD hS (H1 := H.push (vp_cell cA (N, .inl (fun j => z_b (f j))))) (by rw [Array.size_push]) (fun q hq => by rw [Array.getElem?_push, if_neg (Nat.ne_of_lt hq)]) (by show (H.push _)[H.size]? = some (vp_cell _ _); rw [Array.getElem?_push_size])
  obtain ⟨t, b1, b2⟩ := kk H.size hS.1 _ locs ls g1 g2 g3 hl ((T.setVm vm').pushCell (vp_cell cA (N, .inl (fun j => z_b (f j))))) (by rw [← hT]; rfl) X'
  refine ⟨t, stp t ?_, b2⟩
  rw [hT]
  exact b1
theorem z_castA (K : z_K p l s m args meth c G A D tys cc nL ret Ts own) {index : Nat} {nm : String} (hlink : Cond.classLink own index nm ∈ Ts) (q0 : Nat) {a : Nat} {cA : ClassId} {x : vp_A} (ha : ws[q0]? = some (a, .inl (cA, x))) (hnm : s.vm.findClass nm = some cA) (hdg : decode cc pc = .ok (.checkcast index, 3)) (kk : Z p l e R s m args below meth c D nL G A Q ws lv cells slots (pc + 3) (.ref a :: st)) : Z p l e R s m args below meth c D nL G A Q ws lv cells slots pc (.ref a :: st) := fun H locs ls hP hD hS hl =>
  va_castA K.1 K.2.1 K.2.2.2.1 (K.2.2.2.2.1 _ hlink) hP q0 ha hnm hdg (kk H locs ls hP hD hS hl)
theorem z_ialdX (K : z_K p l s m args meth c G A D tys cc nL ret Ts own) (t0 k : Nat) {q0 a : Nat} {cA : ClassId} {n : Nat} {f : Nat → Int32} {x : Int32} (hx : f k = x) (hk : k < n) (hn : n < 2 ^ 31) (ha : ws[q0]? = some (a, .inl (cA, n, .inl f))) (ht : tys[t0]? = some (cA, .int)) (hdg : decode cc pc = .ok (.iaload, 1)) (kk : Z p l e R s m args below meth c D nL G A Q ws lv cells slots (pc + 1) (.int x :: st)) : Z p l e R s m args below meth c D nL G A Q ws lv cells slots pc (.int (nI k) :: .ref a :: st) :=
  z_iald K q0 t0 ha ht (vp_in_nI hk hn) hdg (by rw [nI_clamp (Nat.lt_trans hk hn)]; exact hx) kk
/-! numbers, null -/
theorem z_irem (K : z_K p l s m args meth c G A D tys cc nL ret Ts own) {x y : Int32} (a d : Nat) (hx : x = nI a) (hy : y = nI d) (ha : a < 2 ^ 31) (h0 : 0 < d) (hd : d < 2 ^ 31) (hdg : decode cc pc = .ok (.irem, 1)) (kk : Z p l e R s m args below meth c D nL G A Q ws lv cells slots (pc + 1) (.int (nI (a % d)) :: st)) : Z p l e R s m args below meth c D nL G A Q ws lv cells slots pc (.int y :: .int x :: st) := fun H locs ls hP hD hS hl => by
  subst hx hy
  exact lv_irem K.1 K.2.1 hdg (nI_ne0 h0 hd) (by rw [pk_rem ha h0 hd]; exact kk H locs ls hP hD hS hl)
theorem z_idiv (K : z_K p l s m args meth c G A D tys cc nL ret Ts own) {x y : Int32} (a d : Nat) (hx : x = nI a) (hy : y = nI d) (ha : a < 2 ^ 31) (h0 : 0 < d) (hd : d < 2 ^ 31) (hdg : decode cc pc = .ok (.idiv, 1)) (kk : Z p l e R s m args below meth c D nL G A Q ws lv cells slots (pc + 1) (.int (nI (a / d)) :: st)) : Z p l e R s m args below meth c D nL G A Q ws lv cells slots pc (.int y :: .int x :: st) := fun H locs ls hP hD hS hl => by
  subst hx hy
  exact lv_idiv K.1 K.2.1 hdg (nI_ne0 h0 hd) (by rw [pk_div ha h0 hd]; exact kk H locs ls hP hD hS hl)
theorem z_sipush (K : z_K p l s m args meth c G A D tys cc nL ret Ts own) {n : Int} {v : Int32} (hdg : decode cc pc = .ok (.sipush n, 3)) (hv : (Int16.ofInt n).toInt32 = v) (kk : Z p l e R s m args below meth c D nL G A Q ws lv cells slots (pc + 3) (.int v :: st)) : Z p l e R s m args below meth c D nL G A Q ws lv cells slots pc st := fun H locs ls hP hD hS hl => lv_sipush K.1 K.2.1 hdg hv (kk H locs ls hP hD hS hl)
theorem z_ifnonnull (K : z_K p l s m args meth c G A D tys cc nL ret Ts own) {x : Nat} {off : Int} (tgt : Nat) (hdg : decode cc pc = .ok (.ifnonnull off, 3)) (ht : (pc : Int) + off = (tgt : Int)) (kk : Z p l e R s m args below meth c D nL G A Q ws lv cells slots tgt st) : Z p l e R s m args below meth c D nL G A Q ws lv cells slots pc (.ref x :: st) := fun H locs ls hP hD hS hl => lv_ifnonnull K.1 K.2.1 hdg ht (kk H locs ls hP hD hS hl)

/-- a new object of a class of this program -/
theorem z_newO (K : z_K p l s m args meth c G A D tys cc nL ret Ts own) {C : String} {T : u_T} {N ci index : Nat} (hin : ∀ w ∈ u_ws C T N, w ∈ Ts) (ty : Nat → FieldType) (hty : ∀ k, k < N → parseFieldDescriptor (T k).2.2.1 = some (ty k)) (hc : vwCl[ci]? = some (C, T, N)) (hcl : Cond.classLink own index C ∈ Ts) (hinst : Cond.instantiable C N ∈ Ts) (hini : Cond.initialized C ∈ Ts) (fs : List Value) (hfs : ∀ j, j < N → defaultValue (ty j) = vp_V fs j) (hdg : decode cc pc = .ok (.new index, 3)) (hcc : cells + 1 ≤ R.cells) (hsl : slots + N ≤ R.slots)
    (kk : ∀ q : Nat, s.heap.size ≤ q → Z p l e R s m args below meth c D nL G A Q (ws ++ [(q, .inr (ci, fs))]) lv (cells + 1) (slots + N) (pc + 3) (.ref q :: st)) : Z p l e R s m args below meth c D nL G A Q ws lv cells slots pc st := by
  intro H locs ls hP hD hS hl
  have hts := K.2.2.2.2.1
  have hKn := K.2.2.2.2.2.1.1 ci _ hc
  refine W.newcK K.1 K.2.1 K.2.2.2.1 (hts _ hcl) (hts _ hinst) (hts _ hini) rfl hdg hcc hsl hKn.2.1 rfl fun H1 kC hkC e1 z1 o1 => ?_
  have hk : ∀ (k : Nat) (x : Nat × va_E), ws[k]? = some x → H1[x.1]? = H[x.1]? := fun k x hx => o1 x.1 ((hP k x hx).lt)
  refine kk H.size hS.1 H1 locs ls ((hP.kept hk).app (fun k x hx => ?_)) (hD.push hP rfl (K.2.2.2.2.2.2.2.2.1.2.2.1 _ hS.1)) ⟨Nat.le_trans hS.1 (by omega), fun x h1 h2 => (o1 x (Nat.lt_of_lt_of_le h1 hS.1)).trans (hS.2.1 x h1 h2), hS.2.2⟩ hl
  have hz : k < 1 := (List.getElem?_eq_some_iff.mp hx).1
  rw [show k = 0 by omega] at hx
  cases hx
  exact ⟨_, hc, (u_born ty hts hin hKn hkC e1 hty).to hfs⟩
/-- constructors: the object's own cell, and new ones, at addresses that come with it -/
def z_QI (D : va_G) (wf : (Nat → Nat) → va_W) (a : Nat) : Array Value → State → Outcome → State → Prop := fun _ st o t => o = .returned none ∧ (∃ b : Nat → Nat, va_P D vwCl (wf b) t.heap ∧ va_D (va_A [(a, .inr (0, []))] st.heap.size) (wf b)) ∧ z_fr [a] st t
def z_MI (l : Launch) (y : MethodName) (wy : List Cond) (rm : Room) (G : Nat → Prop) (D : va_G) (tys : List (ClassId × FieldType)) (a : Nat) (wp : va_W) (wf : (Nat → Nat) → va_W) (mc ms : Nat) : Prop :=
  ∀ sz : Nat, Met l y wy rm (z_pre l G D tys [.ref a] wp sz) (z_QI D wf a) mc ms (z_A [a] sz)
theorem z_ofWI {y : MethodName} {wy wy' : List Cond} {rm : Room} {a : Nat} {e0 : va_E} {wf : (Nat → Nat) → va_W} {mc ms : Nat} (hy : plainName y.cls = true) (hw : wy = Cond.code y cc nL ret :: wy') (hav : (lg_sl [.ref a]).length ≤ nL)
    (body : ∀ (p : Program) (e : Env) (s : State) (m : MethodId) (args : Array Value) (below : List Frame) (meth : Method) (c : Code), z_K p l s m args meth c G (z_A [a] s.heap.size) D tys cc nL ret wy y.cls → meth.name = y.name → Z p l e rm s m args below meth c D nL G (z_A [a] s.heap.size) (MQ below (z_QI D wf a) args s mc ms (z_A [a] s.heap.size)) [(a, e0)] [(0, .ref a)] 0 0 0 []) : z_MI l y wy rm G D tys a [(a, e0)] wf mc ms := by
  intro sz
  refine Met.ofW (cc := cc) (maxL := nL) (ret := ret) hy hw ?_
  intro p e s m args below meth c s₁ B hml hv
  obtain ⟨hsz, rfl, hP, hE, hD⟩ := hv
  subst hsz
  have hAG : ∀ q, z_A [a] s.heap.size q → G q := fun q h => h.elim (fun h => by rw [List.mem_singleton.mp h]; exact hD.2 0 _ rfl) (fun h => hE.2.2.1 q h)
  have K : z_K p l s m [Value.ref a].toArray meth c G (z_A [a] s.heap.size) D tys cc nL ret wy y.cls := ⟨B.exec, B.bytes, hml, findClass_of_methodNamed B.named, atoms_spec (ws := wy) B.pre, hE.1, B.returns, B.notSynchronized, hE, hAG, fun q h => Or.inr h⟩
  rw [lg_entry_eq]
  exact body p e s m _ below meth c K (name_of_methodNamed B.named B.method).1 s.heap [] _ hP hD va_S.rf (lv_entry [.ref a] hav)
theorem z_iretI {wf : (Nat → Nat) → va_W} {a mc ms : Nat} (K : z_K p l s m args meth c G (z_A [a] s.heap.size) D tys cc nL none Ts own) (hdg : decode cc pc = .ok (.return_, 1)) (b : Nat → Nat) (hb : wf b = ws) (hadr : ∀ x ∈ ws.map Prod.fst, x = a ∨ s.heap.size ≤ x) (hc : cells ≤ mc) (hs : slots ≤ ms) : Z p l e R s m args below meth c D nL G (z_A [a] s.heap.size) (MQ below (z_QI D wf a) args s mc ms (z_A [a] s.heap.size)) ws lv cells slots pc [] := by
  intro H locs ls hP hD hS hl
  subst hb
  refine W.widen hc hs (W.vret K.1 K.2.1 K.2.2.2.2.2.2.1 (fun t ht _ => ⟨rfl, ⟨b, by rw [ht]; exact hP, hD.1, fun k q hk => ?_⟩, ?_⟩) hS.2.2 hdg K.2.2.2.2.2.2.2.1)
  · rcases hadr q.1 (List.mem_map.mpr ⟨q, List.mem_of_getElem? hk, rfl⟩) with h | h
    · rw [h]; exact Or.inl ⟨0, _, rfl⟩
    · exact Or.inr h
  · exact ⟨by rw [ht]; exact hS.1, fun q h1 h2 => by rw [ht]; exact hS.2.1 q h1 (fun h => h.elim h2 (fun h => absurd h (Nat.not_le.mpr h1)))⟩
theorem z_callI {y : MethodName} {wy wy' : List Cond} {rm : Room} {b : Nat} {e0 : va_E} {wr : va_W} {wf : (Nat → Nat) → va_W} {mc ms index maxL : Nat} {by' : ByteArray}
    (K : z_K p l s m args meth c G A D tys cc nL ret Ts own) (hM : z_MI l y wy rm G D tys b [(b, e0)] wf mc ms) (hG : GoodIn Ts wy) (hw : wy = Cond.code y by' maxL none :: wy') (hini : Cond.initialized y.cls ∈ Ts) (hlk : Cond.methodLink own index y ∈ Ts) (hins : Cond.instanceMethod y ∈ Ts) (hy1 : y.name = "<init>")
    (hd : y.cls ≠ "java/lang/invoke/MethodHandle" ∧ y.cls ≠ "java/lang/invoke/VarHandle" ∧ (parseMethodDescriptor y.desc).map (fun d => d.parameters.length) = some 0) (hdg : decode cc pc = .ok (.invokespecial index, 3)) (hb : s.heap.size ≤ b)
    (q0 : Nat) (isR : List Nat) (hrc : rm.cells = mc) (hrs : rm.slots = ms) (hR : rm.frames + 1 ≤ R.frames ∧ 8 + (maxL + 11) + rm.locals ≤ R.locals) (hf : cells + mc ≤ R.cells ∧ slots + ms ≤ R.slots)
    (he : ws[q0]? = some (b, e0)) (hnr : va_nd isR = true) (hdis : ∀ i ∈ isR, i ∉ [q0]) (hr : isR.map (fun i => ws[i]?) = wr.map some) (hcat : (st.map fun v => v.category).sum ≤ 8)
    (kk : ∀ bb : Nat → Nat, (∀ x ∈ (wf bb).map Prod.fst, x = b ∨ s.heap.size ≤ x) → Z p l e R s m args below meth c D nL G A Q (wr ++ wf bb) lv (cells + mc) (slots + ms) (pc + 3) st) : Z p l e R s m args below meth c D nL G A Q ws lv cells slots pc (.ref b :: st) := by
  intro H locs ls hP hD hS hl T hT X
  have hts := K.2.2.2.2.1
  have hC : [q0].map (fun i => ws[i]?) = ([(b, e0)] : va_W).map some := by simp [he]
  have hrun := va_runI (As := []) (rest := st) (g := F0 m pc ls (.ref b :: st)) (cells := cells) (slots := slots) (locs := locs) (e := e) (R := R) (meth := meth) (below := below) (p := p) ⟨K.1, K.2.1, K.2.2.1, K.2.2.2.1, hts⟩ (hM H.size) (cwI 0 hts hG hw hrc hrs (hts _ hini) (hts _ hlk) (hts _ hins) hy1 hd hR) ⟨z_blind, fun U hU hW => z_preP K.2.2.2.2.2.2.2.2.1 K.2.2.2.2.2.2.2.2.2.1 hP hD hS [q0] rfl hC U hU hW⟩ rfl rfl hl.1 rfl (lv_room hcat) hdg hf
  obtain ⟨v', st₀, t, T', L, h0, X', hL, e1, e2, ⟨hv, ⟨bb, hPb, hDb⟩, hF⟩, go⟩ := hrun T hT X
  cases hv
  obtain ⟨f1, f2⟩ := hF
  rw [h0] at f1 f2 hDb
  have hAb : A b := K.2.2.2.2.2.2.2.2.2.2 b hb
  have hbG : G b := K.2.2.2.2.2.2.2.2.2.1 b hAb
  have hDb' : va_D (va_A [(b, e0)] H.size) (wf bb) := hDb.weaken (fun k q _ h => h.elim (fun ⟨j, e, hj⟩ => Or.inl ⟨0, e0, by
    have hz : j < 1 := (List.getElem?_eq_some_iff.mp hj).1
    rw [show j = 0 by omega] at hj
    cases hj; rfl⟩) Or.inr)
  obtain ⟨hP2, hD2⟩ := va_join (A0 := G) (wc := [(b, e0)]) (wr := wr) (w1 := wf bb) hP hD [q0] isR hC hr hnr hdis (H1 := t.heap) (fun q g1 g2 => f2 q g1 (fun h => g2 (by rw [List.mem_singleton.mp h]; exact Or.inl ⟨0, _, rfl⟩))) (fun q h => h.elim (fun ⟨j, e, hj⟩ => by
    have hz : j < 1 := (List.getElem?_eq_some_iff.mp hj).1
    rw [show j = 0 by omega] at hj
    cases hj; exact hbG) (fun h => K.2.2.2.2.2.2.2.2.1.2.2.1 q (Nat.le_trans hS.1 h))) hPb hDb'
  have hadr : ∀ x ∈ (wf bb).map Prod.fst, x = b ∨ s.heap.size ≤ x := by
    intro x hx
    obtain ⟨q, hq, rfl⟩ := List.mem_map.mp hx
    obtain ⟨k, hk⟩ := List.mem_iff_getElem?.mp hq
    rcases hDb.2 k q hk with ⟨j, e, hj⟩ | h
    · have hz : j < 1 := (List.getElem?_eq_some_iff.mp hj).1
      rw [show j = 0 by omega] at hj
      cases hj; exact Or.inl rfl
    · exact Or.inr (Nat.le_trans hS.1 h)
  obtain ⟨t2, a1, b1⟩ := kk bb hadr T'.heap (locs ++ L) ls (by rw [e1]; exact hP2) hD2 ⟨by rw [e1]; exact Nat.le_trans hS.1 f1, fun q g1 g2 => by
      rw [e1, f2 q (Nat.lt_of_lt_of_le g1 hS.1) (fun h => g2 (by rw [List.mem_singleton.mp h]; exact hAb))]
      exact hS.2.1 q g1 g2, fun q hq => by
      rcases List.mem_append.mp hq with h | h
      · exact hS.2.2 q h
      · rcases hL q h with h | h
        · rw [List.mem_singleton.mp h]; exact hAb
        · exact K.2.2.2.2.2.2.2.2.2.2 _ (Nat.le_trans hS.1 h)⟩ hl T' rfl X'
  exact ⟨t2, go t2 a1, b1⟩

end ZSIM
end
section
/-! worlds up to the order of their cells -/
theorem w_P {D : va_G} {H : Heap} {ws : va_W} : va_P D vwCl ws H ↔ ∀ q ∈ ws, va_at D vwCl q H :=
  ⟨fun h q hq => (List.mem_iff_getElem?.mp hq).elim fun k hk => h k q hk, fun h k q hk => h q (List.mem_of_getElem? hk)⟩
theorem w_D {A : Nat → Prop} {ws : va_W} : va_D A ws ↔ List.Pairwise (fun a b : Nat × va_E => a.1 ≠ b.1) ws ∧ ∀ q ∈ ws, A q.1 := by
  constructor
  · intro h
    refine ⟨List.pairwise_iff_getElem.mpr (fun i j hi hj hij e => ?_), fun q hq => (List.mem_iff_getElem?.mp hq).elim fun k hk => h.2 k q hk⟩
    exact absurd (h.1 i j _ _ (List.getElem?_eq_getElem hi) (List.getElem?_eq_getElem hj) e) (Nat.ne_of_lt hij)
  · intro h
    refine ⟨fun i j p q hp hq e => ?_, fun k q hk => h.2 q (List.mem_of_getElem? hk)⟩
    obtain ⟨hi, ei⟩ := List.getElem?_eq_some_iff.mp hp
    obtain ⟨hj, ej⟩ := List.getElem?_eq_some_iff.mp hq
    have hw := List.pairwise_iff_getElem.mp h.1
    rcases Nat.lt_trichotomy i j with g | g | g
    · exact absurd (by rw [ei, ej]; exact e) (hw i j hi hj g)
    · exact g
    · exact absurd (by rw [ei, ej]; exact e.symm) (hw j i hj hi g)
theorem w_perm {A : Nat → Prop} {D : va_G} {H : Heap} {ws ws' : va_W} (h : ws.Perm ws') (hP : va_P D vwCl ws H) (hD : va_D A ws) : va_P D vwCl ws' H ∧ va_D A ws' :=
  ⟨w_P.mpr (fun q hq => w_P.mp hP q (h.mem_iff.mpr hq)), w_D.mpr ⟨h.pairwise (w_D.mp hD).1 (fun {x y} g => Ne.symm g), fun q hq => (w_D.mp hD).2 q (h.mem_iff.mpr hq)⟩⟩
theorem w_subl {A : Nat → Prop} {D : va_G} {H : Heap} {ws ws' : va_W} (h : List.Sublist ws' ws) (hP : va_P D vwCl ws H) (hD : va_D A ws) : va_P D vwCl ws' H ∧ va_D A ws' :=
  ⟨w_P.mpr (fun q hq => w_P.mp hP q (h.subset hq)), w_D.mpr ⟨(w_D.mp hD).1.sublist h, fun q hq => (w_D.mp hD).2 q (h.subset hq)⟩⟩
/-- places in worlds of parts -/
theorem ga {X Y : va_W} {n j : Nat} {w : Nat × va_E} (hn : X.length = n) (h : Y[j]? = some w) : (X ++ Y)[j + n]? = some w := by
  rw [List.getElem?_append_right (by omega), show j + n - X.length = j by omega]; exact h
theorem gb {X Y : va_W} {j : Nat} {w : Nat × va_E} (h : X[j]? = some w) : (X ++ Y)[j]? = some w := by
  rw [List.getElem?_append_left (List.getElem?_eq_some_iff.mp h).1]; exact h
theorem sa {X Y : va_W} {n j : Nat} {w : Nat × va_E} (hn : X.length = n) : (X ++ Y).set (j + n) w = X ++ Y.set j w := by
  rw [List.set_append_right _ _ (by omega), show j + n - X.length = j by omega]
theorem sb {X Y : va_W} {j : Nat} {w w' : Nat × va_E} (h : X[j]? = some w) : (X ++ Y).set j w' = X.set j w' ++ Y := by
  rw [List.set_append_left _ _ (List.getElem?_eq_some_iff.mp h).1]
theorem sm_get {L k : Nat} {r : Nat → Nat} {x : Nat → va_E} (h : k < L) : (sm_rows L r x)[k]? = some (r k, x k) := by
  unfold sm_rows
  rw [List.getElem?_map, List.getElem?_range h]; rfl
theorem sm_len {L : Nat} {r : Nat → Nat} {x : Nat → va_E} : (sm_rows L r x).length = L := by
  unfold sm_rows; rw [List.length_map, List.length_range]
theorem sm_congr {L : Nat} {r r' : Nat → Nat} {x x' : Nat → va_E} (h : ∀ k, k < L → r k = r' k ∧ x k = x' k) : sm_rows L r x = sm_rows L r' x' := by
  unfold sm_rows
  refine List.map_congr_left (fun k hk => ?_)
  obtain ⟨h1, h2⟩ := h k (List.mem_range.mp hk)
  rw [h1, h2]
theorem sm_set {L k : Nat} {r : Nat → Nat} {x : Nat → va_E} {e : va_E} (h : k < L) : (sm_rows L r x).set k (r k, e) = sm_rows L r (fun j => if j = k then e else x j) := by
  refine List.ext_getElem? (fun i => ?_)
  by_cases hi : i < L
  · rw [sm_get hi]
    by_cases hk : i = k
    · subst hk
      rw [List.getElem?_set_self (by rw [sm_len]; exact hi), if_pos rfl]
    · rw [List.getElem?_set_ne (Ne.symm hk), sm_get hi, if_neg hk]
  · rw [List.getElem?_eq_none (by rw [List.length_set, sm_len]; omega), List.getElem?_eq_none (by rw [sm_len]; omega)]
theorem sm_push {L q : Nat} {r : Nat → Nat} {x : Nat → va_E} {e : va_E} : sm_rows L r x ++ [(q, e)] = sm_rows (L + 1) (fun i => if i = L then q else r i) (fun i => if i = L then e else x i) := by
  have h : sm_rows (L + 1) (fun i => if i = L then q else r i) (fun i => if i = L then e else x i) = sm_rows L (fun i => if i = L then q else r i) (fun i => if i = L then e else x i) ++ [(q, e)] := by
    unfold sm_rows
    rw [List.range_succ, List.map_append]
    simp
  rw [h]
  exact congrArg (· ++ [(q, e)]) (sm_congr (r' := fun i => if i = L then q else r i) (x' := fun i => if i = L then e else x i) (fun k hk => ⟨(if_neg (Nat.ne_of_lt hk)).symm, (if_neg (Nat.ne_of_lt hk)).symm⟩))
theorem sm_mem {L : Nat} {r : Nat → Nat} {x : Nat → va_E} {w : Nat × va_E} (h : w ∈ sm_rows L r x) : ∃ k, k < L ∧ w = (r k, x k) := by
  unfold sm_rows at h
  obtain ⟨k, hk, e⟩ := List.mem_map.mp h
  exact ⟨k, List.mem_range.mp hk, e.symm⟩
theorem sm_ref_at {L k : Nat} {r : Nat → Nat} (h : k < L) : sm_ref L r k = some (r k) := if_pos h
def up2 (T : Nat → Nat → Bool) (f v : Nat) (b : Bool) : Nat → Nat → Bool := fun g j => if g = f then (if j = v then b else T g j) else T g j
def upR (T : Nat → Nat → Bool) (f : Nat) (F : Nat → Bool) : Nat → Nat → Bool := fun g => if g = f then F else T g
theorem rw1_upd {F : Nat → Bool} {v : Nat} {b : Bool} : upd (rw1 F) v (z_b b) = rw1 (fun j => if j = v then b else F j) := by
  funext j
  by_cases h : j = v
  · subst h; simp [upd, rw1]
  · simp [upd, rw1, h]
theorem up2_row {T : Nat → Nat → Bool} {f v : Nat} {b : Bool} : up2 T f v b f = fun j => if j = v then b else T f j := by
  funext j; simp [up2]
theorem up2_ne {T : Nat → Nat → Bool} {f v g : Nat} {b : Bool} (h : g ≠ f) : up2 T f v b g = T g := by
  funext j; simp [up2, h]
/-- a family of rows of truths, one written -/
theorem sm_up2 {L f v M : Nat} {r : Nat → Nat} {cZ : ClassId} {T : Nat → Nat → Bool} {b : Bool} (h : f < L) : (sm_rows L r (fun g => .inl (cZ, M, .inl (rw1 (T g))))).set f (r f, .inl (cZ, M, .inl (upd (rw1 (T f)) v (z_b b)))) = sm_rows L r (fun g => .inl (cZ, M, .inl (rw1 (up2 T f v b g)))) := by
  rw [sm_set h, rw1_upd]
  refine sm_congr (fun k _ => ⟨rfl, ?_⟩)
  by_cases hk : k = f
  · subst hk; rw [if_pos rfl, up2_row]
  · rw [if_neg hk, up2_ne hk]
/-- a fable's row: its moral, its home, its parent -/
def fr (m h : Nat) (p : Int32) : Nat → Int32
  | 0 => nI m
  | 1 => nI h
  | _ => p
section SIMW
variable {cI cZ cQ cW : ClassId} {u : Nat → Nat} {r : Nat → Nat → Nat} {n : Nat} {ss sl : Int32} {MM HH : Nat → Nat} {PP : Nat → Int32} {BB TB MB AB PB : Nat → Nat → Bool}
/-- the object, its six outer arrays, and their rows: told, morals, bans, passes, fables, beasts -/
def simW (cI cZ cQ cW : ClassId) (u : Nat → Nat) (r : Nat → Nat → Nat) (n : Nat) (ss sl : Int32) (MM HH : Nat → Nat) (PP : Nat → Int32) (BB TB MB AB PB : Nat → Nat → Bool) : va_W :=
  [(u 0, .inr (3, [.int (nI n), .int ss, .int sl, .ref (u 1), .ref (u 2), .ref (u 3), .ref (u 4), .ref (u 5), .ref (u 6)])), (u 1, .inl (cQ, 20, .inr (.inr (.inr (.inr (sm_ref n (r 0))))))), (u 2, .inl (cW, 20, .inr (.inr (.inr (.inr (sm_ref n (r 1))))))), (u 3, .inl (cW, 20, .inr (.inr (.inr (.inr (sm_ref 20 (r 2))))))), (u 4, .inl (cW, 6, .inr (.inr (.inr (.inr (sm_ref 6 (r 3))))))), (u 5, .inl (cW, 6, .inr (.inr (.inr (.inr (sm_ref 6 (r 4))))))), (u 6, .inl (cW, 6, .inr (.inr (.inr (.inr (sm_ref 6 (r 5)))))))] ++
  (sm_rows 20 (r 2) (fun f => .inl (cZ, 6, .inl (rw1 (TB f)))) ++ (sm_rows 6 (r 3) (fun v => .inl (cZ, 10, .inl (rw1 (MB v)))) ++ (sm_rows 6 (r 4) (fun v => .inl (cZ, 12, .inl (rw1 (AB v)))) ++ (sm_rows 6 (r 5) (fun v => .inl (cZ, 6, .inl (rw1 (PB v)))) ++ (sm_rows n (r 0) (fun k => .inl (cI, 3, .inl (fr (MM k) (HH k) (PP k)))) ++ sm_rows n (r 1) (fun k => .inl (cZ, 12, .inl (rw1 (BB k)))))))))
theorem sw_O {f : Nat} (h : f < 20) : (simW cI cZ cQ cW u r n ss sl MM HH PP BB TB MB AB PB)[f + 7]? = some (r 2 f, .inl (cZ, 6, .inl (rw1 (TB f)))) := ga rfl (gb (sm_get h))
theorem sw_M {v : Nat} (h : v < 6) : (simW cI cZ cQ cW u r n ss sl MM HH PP BB TB MB AB PB)[v + 20 + 7]? = some (r 3 v, .inl (cZ, 10, .inl (rw1 (MB v)))) := ga rfl (ga sm_len (gb (sm_get h)))
theorem sw_A {v : Nat} (h : v < 6) : (simW cI cZ cQ cW u r n ss sl MM HH PP BB TB MB AB PB)[v + 6 + 20 + 7]? = some (r 4 v, .inl (cZ, 12, .inl (rw1 (AB v)))) := ga rfl (ga sm_len (ga sm_len (gb (sm_get h))))
theorem sw_P {v : Nat} (h : v < 6) : (simW cI cZ cQ cW u r n ss sl MM HH PP BB TB MB AB PB)[v + 6 + 6 + 20 + 7]? = some (r 5 v, .inl (cZ, 6, .inl (rw1 (PB v)))) := ga rfl (ga sm_len (ga sm_len (ga sm_len (gb (sm_get h)))))
theorem sw_F {k : Nat} (h : k < n) : (simW cI cZ cQ cW u r n ss sl MM HH PP BB TB MB AB PB)[k + 6 + 6 + 6 + 20 + 7]? = some (r 0 k, .inl (cI, 3, .inl (fr (MM k) (HH k) (PP k)))) := ga rfl (ga sm_len (ga sm_len (ga sm_len (ga sm_len (gb (sm_get h))))))
theorem sw_B {k : Nat} (h : k < n) : (simW cI cZ cQ cW u r n ss sl MM HH PP BB TB MB AB PB)[k + n + 6 + 6 + 6 + 20 + 7]? = some (r 1 k, .inl (cZ, 12, .inl (rw1 (BB k)))) := ga rfl (ga sm_len (ga sm_len (ga sm_len (ga sm_len (ga sm_len (sm_get h))))))
theorem ss_O {f v : Nat} {b : Bool} (h : f < 20) : (simW cI cZ cQ cW u r n ss sl MM HH PP BB TB MB AB PB).set (f + 7) (r 2 f, .inl (cZ, 6, .inl (upd (rw1 (TB f)) v (z_b b)))) = simW cI cZ cQ cW u r n ss sl MM HH PP BB (up2 TB f v b) MB AB PB := by
  unfold simW; rw [sa (n := 7) rfl, sb (sm_get h), sm_up2 h]
theorem ss_M {f v : Nat} {b : Bool} (h : f < 6) : (simW cI cZ cQ cW u r n ss sl MM HH PP BB TB MB AB PB).set (f + 20 + 7) (r 3 f, .inl (cZ, 10, .inl (upd (rw1 (MB f)) v (z_b b)))) = simW cI cZ cQ cW u r n ss sl MM HH PP BB TB (up2 MB f v b) AB PB := by
  unfold simW; rw [sa (n := 7) rfl, sa sm_len, sb (sm_get h), sm_up2 h]
theorem ss_A {f v : Nat} {b : Bool} (h : f < 6) : (simW cI cZ cQ cW u r n ss sl MM HH PP BB TB MB AB PB).set (f + 6 + 20 + 7) (r 4 f, .inl (cZ, 12, .inl (upd (rw1 (AB f)) v (z_b b)))) = simW cI cZ cQ cW u r n ss sl MM HH PP BB TB MB (up2 AB f v b) PB := by
  unfold simW; rw [sa (n := 7) rfl, sa sm_len, sa sm_len, sb (sm_get h), sm_up2 h]
theorem ss_P {f v : Nat} {b : Bool} (h : f < 6) : (simW cI cZ cQ cW u r n ss sl MM HH PP BB TB MB AB PB).set (f + 6 + 6 + 20 + 7) (r 5 f, .inl (cZ, 6, .inl (upd (rw1 (PB f)) v (z_b b)))) = simW cI cZ cQ cW u r n ss sl MM HH PP BB TB MB AB (up2 PB f v b) := by
  unfold simW; rw [sa (n := 7) rfl, sa sm_len, sa sm_len, sa sm_len, sb (sm_get h), sm_up2 h]
theorem ss_B {f v : Nat} {b : Bool} (h : f < n) : (simW cI cZ cQ cW u r n ss sl MM HH PP BB TB MB AB PB).set (f + n + 6 + 6 + 6 + 20 + 7) (r 1 f, .inl (cZ, 12, .inl (upd (rw1 (BB f)) v (z_b b)))) = simW cI cZ cQ cW u r n ss sl MM HH PP (up2 BB f v b) TB MB AB PB := by
  unfold simW; rw [sa (n := 7) rfl, sa sm_len, sa sm_len, sa sm_len, sa sm_len, sa sm_len, sm_up2 h]
end SIMW
theorem sw_len {cI cZ cQ cW : ClassId} {u : Nat → Nat} {r : Nat → Nat → Nat} {n : Nat} {ss sl : Int32} {MM HH : Nat → Nat} {PP : Nat → Int32} {BB TB MB AB PB : Nat → Nat → Bool} : (simW cI cZ cQ cW u r n ss sl MM HH PP BB TB MB AB PB).length = n + n + 45 := by
  unfold simW
  simp only [List.length_append, sm_len, List.length_cons, List.length_nil]
  omega
section GRID
variable {cW cZ : ClassId} {q L M : Nat} {r : Nat → Nat} {T : Nat → Nat → Bool}
theorem gr_o : (gridW cW cZ q L M r T)[0]? = some (q, .inl (cW, L, .inr (.inr (.inr (.inr (sm_ref L r)))))) := rfl
theorem gr_r {g : Nat} (h : g < L) : (gridW cW cZ q L M r T)[g + 1]? = some (r g, .inl (cZ, M, .inl (rw1 (T g)))) := sm_get h
theorem gr_set {g v : Nat} {b : Bool} (h : g < L) : (gridW cW cZ q L M r T).set (g + 1) (r g, .inl (cZ, M, .inl (upd (rw1 (T g)) v (z_b b)))) = gridW cW cZ q L M r (up2 T g v b) := by
  unfold gridW
  rw [List.set_cons_succ, sm_up2 h]
end GRID
/-- two orders of the same cells -/
theorem w_count {a b : va_W} (h : ∀ (inst : DecidableEq (Nat × va_E)) (x : Nat × va_E), a.count x = b.count x) : a.Perm b := by
  haveI i : DecidableEq (Nat × va_E) := fun a b => Classical.propDecidable (a = b)
  exact List.perm_iff_count.mpr (fun x => h i x)
end
section
section ZN
variable {p : Program} {l : Launch} {e : Env} {R : Room} {s : State} {m : MethodId} {args : Array Value} {below : List Frame} {meth : Method} {c : Code} {D : va_G} {nL : Nat} {G A : Nat → Prop} {Q : State → Prop} {ws : va_W} {lv : List (Nat × Value)} {cells slots pc : Nat} {st : List Value} {cc : ByteArray} {ret : Option FieldType} {Ts : List Cond} {own : String} {tys : List (ClassId × FieldType)}
/-! contracts that leave open which cells come, and which state: b says it -/
theorem z_perm {ws' : va_W} (h : ws.Perm ws') (kk : Z p l e R s m args below meth c D nL G A Q ws' lv cells slots pc st) : Z p l e R s m args below meth c D nL G A Q ws lv cells slots pc st := fun H locs ls hP hD hS hl => kk H locs ls (w_perm h hP hD).1 (w_perm h hP hD).2 hS hl
theorem z_subl {ws' : va_W} (h : List.Sublist ws' ws) (kk : Z p l e R s m args below meth c D nL G A Q ws' lv cells slots pc st) : Z p l e R s m args below meth c D nL G A Q ws lv cells slots pc st := fun H locs ls hP hD hS hl => kk H locs ls (w_subl h hP hD).1 (w_subl h hP hD).2 hS hl
/-- these cells are among those, apart -/
def z_in (wp ws : va_W) : Prop := List.Sublist wp ws
theorem z_preI {av : List Value} {wp : va_W} {H : Heap} {locs : List Loc} (hE : z_E l G D tys s) (hAG : ∀ q, A q → G q) (hP : va_P D vwCl ws H) (hD : va_D G ws) (hS : va_S A s.heap H locs) (hin : z_in wp ws) (U : State) (hU : U.heap = H) (hW : s.WarmedH U.vm) : z_pre l G D tys av wp H.size av.toArray U := by
  refine ⟨by rw [hU], rfl, by rw [hU]; exact (w_subl hin hP hD).1, hE.step hW (by rw [hU]; exact hS.1) (fun q h1 h2 => by rw [hU]; exact hS.2.1 q h1 (fun h => h2 (hAG q h))), (w_subl hin hP hD).2⟩
theorem z_gA {A' : Nat → Prop} {wp : va_W} (h : ∀ q, G q → A' q) : ∀ q ∈ ([] : va_W).map Prod.fst, A' q := fun _ h => nomatch h
/-- a call of a method that reads alone, of a world's part -/
theorem z_cV {y : MethodName} {wy wy' : List Cond} {rm : Room} {b : Nat} {As : List Value} {wp : va_W} {v : Option Value} {index maxL : Nat} {by' : ByteArray} {ry : Option FieldType} {C : String} {rest st' : List Value} {fs : List Value} {T : u_T} {N : Nat}
    (K : z_K p l s m args meth c G A D tys cc nL ret Ts own) (hM : z_M l y wy rm G D tys (.ref b :: As) wp v [] 0 0) (hG : GoodIn Ts (wsV own index C y wy)) (hw : wy = Cond.code y by' maxL ry :: wy') (n ci : Nat)
    (hd : y.cls = C ∧ y.cls ≠ "java/lang/invoke/MethodHandle" ∧ y.cls ≠ "java/lang/invoke/VarHandle" ∧ (parseMethodDescriptor y.desc).map (fun d => d.parameters.length) = some n) (hc : vwCl[ci]? = some (C, T, N)) (hdg : decode cc pc = .ok (.invokevirtual index, 3))
    (hin : z_in wp ws) {q0 : Nat} (hrc : rm.cells = 0) (hrs : rm.slots = 0) (hR : rm.frames + 1 ≤ R.frames ∧ 8 + (maxL + 11) + rm.locals ≤ R.locals) (hf : cells ≤ R.cells ∧ slots ≤ R.slots)
    (he : ws[q0]? = some (b, .inr (ci, fs))) (hlen : As.length = n) (hstk : st = As.reverse ++ .ref b :: rest) (hcat : (rest.map fun v => v.category).sum ≤ 8) (hst : v.toList ++ rest = st')
    (kk : Z p l e R s m args below meth c D nL G A Q ws lv cells slots (pc + 3) st') : Z p l e R s m args below meth c D nL G A Q ws lv cells slots pc st :=
  z_call (ws' := ws) (wv := []) (mc := 0) (ms := 0) K (fun H locs ls hP hD hS hl => va_runV ⟨K.1, K.2.1, K.2.2.1, K.2.2.2.1, K.2.2.2.2.1⟩ (hM H.size) (cwV n K.2.2.2.2.1 hG hw hrc hrs hd hR) ⟨z_blind, va_recv K.2.2.2.2.2.1 hP hc he, fun U hU hW => z_preI K.2.2.2.2.2.2.2.2.1 K.2.2.2.2.2.2.2.2.2.1 hP hD hS hin U hU hW⟩ rfl hlen hl.1 hstk (lv_room hcat) hdg hf) [] rfl (fun _ h => nomatch h) rfl hst kk
def z_QN (D : va_G) {β : Type} (Pb : β → Prop) (vf : β → Option Value) (wf : β → va_W) (ch : List Nat) : Array Value → State → Outcome → State → Prop := fun _ st o t => ∃ b : β, Pb b ∧ o = .returned (vf b) ∧ va_P D vwCl (wf b) t.heap ∧ va_D (z_A ch st.heap.size) (wf b) ∧ z_fr ch st t
def z_MN (l : Launch) (y : MethodName) (wy : List Cond) (rm : Room) (G : Nat → Prop) (D : va_G) (tys : List (ClassId × FieldType)) (av : List Value) (wp : va_W) (X : State → Prop) {β : Type} (Pb : β → Prop) (vf : β → Option Value) (wf : β → va_W) (mc ms : Nat) : Prop :=
  ∀ sz : Nat, Met l y wy rm (fun a U => z_pre l G D tys av wp sz a U ∧ X U) (z_QN D Pb vf wf (wp.map Prod.fst)) mc ms (z_A (wp.map Prod.fst) sz)
theorem z_ofWN {β : Type} {Pb : β → Prop} {vf : β → Option Value} {wf : β → va_W} {X : State → Prop} {y : MethodName} {wy wy' : List Cond} {rm : Room} {av : List Value} {wp : va_W} {mc ms : Nat} (hy : plainName y.cls = true) (hw : wy = Cond.code y cc nL ret :: wy') (hav : (lg_sl av).length ≤ nL) {lv0 : List (Nat × Value)} (hlv : lv_args 0 av = lv0)
    (body : ∀ (p : Program) (e : Env) (s : State) (m : MethodId) (args : Array Value) (below : List Frame) (meth : Method) (c : Code), z_K p l s m args meth c (z_A (wp.map Prod.fst) s.heap.size) (z_A (wp.map Prod.fst) s.heap.size) D tys cc nL ret wy y.cls → meth.name = y.name → X s → (∀ q, z_A (wp.map Prod.fst) s.heap.size q → G q) → Z p l e rm s m args below meth c D nL (z_A (wp.map Prod.fst) s.heap.size) (z_A (wp.map Prod.fst) s.heap.size) (MQ below (z_QN D Pb vf wf (wp.map Prod.fst)) args s mc ms (z_A (wp.map Prod.fst) s.heap.size)) wp lv0 0 0 0 []) : z_MN l y wy rm G D tys av wp X Pb vf wf mc ms := by
  intro sz
  refine Met.ofW (cc := cc) (maxL := nL) (ret := ret) hy hw ?_
  intro p e s m args below meth c s₁ B hml hv
  obtain ⟨⟨hsz, rfl, hP, hE, hD⟩, hX⟩ := hv
  subst hsz
  have hAG : ∀ q, z_A (wp.map Prod.fst) s.heap.size q → G q := fun q h => h.elim (fun h => by
    obtain ⟨w, hw, e⟩ := List.mem_map.mp h
    rw [← e]; exact (w_D.mp hD).2 w hw) (fun h => hE.2.2.1 q h)
  have hE2 : z_E l (z_A (wp.map Prod.fst) s.heap.size) D tys s := ⟨hE.1, trivial, fun q h => Or.inr h, hE.2.2.2⟩
  have K : z_K p l s m av.toArray meth c (z_A (wp.map Prod.fst) s.heap.size) (z_A (wp.map Prod.fst) s.heap.size) D tys cc nL ret wy y.cls := ⟨B.exec, B.bytes, hml, findClass_of_methodNamed B.named, atoms_spec (ws := wy) B.pre, hE.1, B.returns, B.notSynchronized, hE2, fun q h => h, fun q h => Or.inr h⟩
  have hD2 : va_D (z_A (wp.map Prod.fst) s.heap.size) wp := w_D.mpr ⟨(w_D.mp hD).1, fun q hq => Or.inl (List.mem_map.mpr ⟨q, hq, rfl⟩)⟩
  rw [lg_entry_eq]
  exact body p e s m _ below meth c K (name_of_methodNamed B.named B.method).1 hX hAG s.heap [] _ hP hD2 va_S.rf (hlv ▸ lv_entry av hav)
theorem z_QNof {β : Type} {Pb : β → Prop} {vf : β → Option Value} {wf : β → va_W} {ch : List Nat} {H : Heap} {locs : List Loc} {t : State} (b : β) (hb : Pb b) (hwf : wf b = ws) (hP : va_P D vwCl ws H) (hD : va_D (z_A ch s.heap.size) ws) (hS : va_S (z_A ch s.heap.size) s.heap H locs) (ht : t.heap = H) : z_QN D Pb vf wf ch args s (.returned (vf b)) t :=
  ⟨b, hb, rfl, by rw [ht, hwf]; exact hP, by rw [hwf]; exact hD, ⟨by rw [ht]; exact hS.1, fun q h1 h2 => by rw [ht]; exact hS.2.1 q h1 (fun h => h.elim h2 (fun h => absurd h (Nat.not_le.mpr h1)))⟩⟩
section ENDN
variable {β : Type} {Pb : β → Prop} {vf : β → Option Value} {wf : β → va_W} {ch : List Nat} {mc ms : Nat}
theorem z_iretN (K : z_K p l s m args meth c (z_A ch s.heap.size) (z_A ch s.heap.size) D tys cc nL (some .int) Ts own) {x : Int32} (hdg : decode cc pc = .ok (.ireturn, 1)) (b : β) (hb : Pb b) (hv : vf b = some (.int x)) (hwf : wf b = ws) (hc : cells ≤ mc) (hs : slots ≤ ms) : Z p l e R s m args below meth c D nL (z_A ch s.heap.size) (z_A ch s.heap.size) (MQ below (z_QN D Pb vf wf ch) args s mc ms (z_A ch s.heap.size)) ws lv cells slots pc [.int x] :=
  fun H locs ls hP hD hS hl => W.widen hc hs (W.iret K.1 K.2.1 K.2.2.2.2.2.2.1 (fun t ht _ => hv ▸ z_QNof b hb hwf hP hD hS ht) hS.2.2 hdg K.2.2.2.2.2.2.2.1)
theorem z_zretN (K : z_K p l s m args meth c (z_A ch s.heap.size) (z_A ch s.heap.size) D tys cc nL (some .boolean) Ts own) {x : Int32} {y : Bool} (hdg : decode cc pc = .ok (.ireturn, 1)) (hx : x = z_b y) (b : β) (hb : Pb b) (hv : vf b = some (.int (z_b y))) (hwf : wf b = ws) (hc : cells ≤ mc) (hs : slots ≤ ms) : Z p l e R s m args below meth c D nL (z_A ch s.heap.size) (z_A ch s.heap.size) (MQ below (z_QN D Pb vf wf ch) args s mc ms (z_A ch s.heap.size)) ws lv cells slots pc [.int x] := by
  subst hx
  exact fun H locs ls hP hD hS hl => W.widen hc hs (W.zret K.1 K.2.1 K.2.2.2.2.2.2.1 (by cases y <;> rfl) (fun t ht _ => hv ▸ z_QNof b hb hwf hP hD hS ht) hS.2.2 hdg K.2.2.2.2.2.2.2.1)
theorem z_vretN (K : z_K p l s m args meth c (z_A ch s.heap.size) (z_A ch s.heap.size) D tys cc nL none Ts own) (hdg : decode cc pc = .ok (.return_, 1)) (b : β) (hb : Pb b) (hv : vf b = none) (hwf : wf b = ws) (hc : cells ≤ mc) (hs : slots ≤ ms) : Z p l e R s m args below meth c D nL (z_A ch s.heap.size) (z_A ch s.heap.size) (MQ below (z_QN D Pb vf wf ch) args s mc ms (z_A ch s.heap.size)) ws lv cells slots pc [] :=
  fun H locs ls hP hD hS hl => W.widen hc hs (W.vret K.1 K.2.1 K.2.2.2.2.2.2.1 (fun t ht _ => hv ▸ z_QNof b hb hwf hP hD hS ht) hS.2.2 hdg K.2.2.2.2.2.2.2.1)
theorem z_aretN {C : String} (K : z_K p l s m args meth c (z_A ch s.heap.size) (z_A ch s.heap.size) D tys cc nL (some (.object C)) Ts own) {x : Nat} (hdg : decode cc pc = .ok (.areturn, 1)) (b : β) (hb : Pb b) (hv : vf b = some (.ref x)) (hwf : wf b = ws) (hc : cells ≤ mc) (hs : slots ≤ ms) : Z p l e R s m args below meth c D nL (z_A ch s.heap.size) (z_A ch s.heap.size) (MQ below (z_QN D Pb vf wf ch) args s mc ms (z_A ch s.heap.size)) ws lv cells slots pc [.ref x] :=
  fun H locs ls hP hD hS hl => W.widen hc hs (W.aret K.1 K.2.1 K.2.2.2.2.2.2.1 (Or.inl ⟨C, rfl⟩) (Or.inr ⟨x, rfl⟩) (fun t ht _ => hv ▸ z_QNof b hb hwf hP hD hS ht) hS.2.2 hdg K.2.2.2.2.2.2.2.1)
end ENDN
/-- what comes back beside what was not handed over -/
theorem z_joinN {X Y Y' : va_W} {H H1 : Heap} (hP : va_P D vwCl (X ++ Y) H) (hD : va_D A (X ++ Y)) (hun : ∀ q, q < H.size → q ∉ Y.map Prod.fst → H1[q]? = H[q]?) (hA : ∀ q, H.size ≤ q → A q) (hPb : va_P D vwCl Y' H1) (hDb : va_D (z_A (Y.map Prod.fst) H.size) Y') : va_P D vwCl (X ++ Y') H1 ∧ va_D A (X ++ Y') := by
  have hp := List.pairwise_append.mp (w_D.mp hD).1
  have hA2 := (w_D.mp hD).2
  have hX : ∀ q ∈ X, q.1 < H.size ∧ q.1 ∉ Y.map Prod.fst := fun q hq => by
    obtain ⟨k, hk⟩ := List.mem_iff_getElem?.mp (List.mem_append_left Y hq)
    refine ⟨(hP k q hk).lt, fun h => ?_⟩
    obtain ⟨y, hy, e⟩ := List.mem_map.mp h
    exact hp.2.2 q hq y hy e.symm
  refine ⟨w_P.mpr (fun q hq => ?_), w_D.mpr ⟨List.pairwise_append.mpr ⟨hp.1, (w_D.mp hDb).1, fun a ha b hb e => ?_⟩, fun q hq => ?_⟩⟩
  · rcases List.mem_append.mp hq with h | h
    · exact (w_P.mp hP q (List.mem_append_left Y h)).kept (hun _ (hX q h).1 (hX q h).2)
    · exact w_P.mp hPb q h
  · rcases (w_D.mp hDb).2 b hb with h | h
    · exact (hX a ha).2 (e ▸ h)
    · have := (hX a ha).1
      omega
  · rcases List.mem_append.mp hq with h | h
    · exact hA2 q (List.mem_append_left Y h)
    · rcases (w_D.mp hDb).2 q h with g | g
      · obtain ⟨y, hy, e⟩ := List.mem_map.mp g
        rw [← e]; exact hA2 y (List.mem_append_right X hy)
      · exact hA _ g
/-- a call of a method whose contract leaves open which; in walks whose cells may all be written (G is A) -/
theorem z_callN {X Y : va_W} {rest : List Value} {β : Type} {Pb : β → Prop} {vf : β → Option Value} {wf : β → va_W} {mc ms : Nat} {a : Array Value} (K : z_K p l s m args meth c A A D tys cc nL ret Ts own) (hXY : ws = X ++ Y)
    (hr : ∀ (H : Heap) (locs : List Loc) (ls : Array Slot), va_P D vwCl ws H → va_D A ws → va_S A s.heap H locs → lv_has ls nL lv → va_Run p l e R s m args below meth c H locs cells slots mc ms (F0 m pc ls st) rest (z_QN D Pb vf wf (Y.map Prod.fst) a) (z_A (Y.map Prod.fst) H.size))
    (kk : ∀ b : β, Pb b → Z p l e R s m args below meth c D nL A A Q (X ++ wf b) lv (cells + mc) (slots + ms) (pc + 3) ((vf b).toList ++ rest)) : Z p l e R s m args below meth c D nL A A Q ws lv cells slots pc st := by
  intro H locs ls hP hD hS hl T hT Xs
  obtain ⟨v', st₀, t, T', L, h0, X', hL, e1, e2, ⟨b, hb, hv, hPv, hDv, hF⟩, go⟩ := hr H locs ls hP hD hS hl T hT Xs
  cases hv
  obtain ⟨f1, f2⟩ := hF
  rw [h0] at f1 f2 hDv
  subst hXY
  have hAn := K.2.2.2.2.2.2.2.2.2.2
  obtain ⟨g1, g2⟩ := z_joinN (H1 := T'.heap) hP hD (fun q h1 h2 => by rw [e1]; exact f2 q h1 h2) (fun q h => hAn q (Nat.le_trans hS.1 h)) (by rw [e1]; exact hPv) hDv
  have hYA : ∀ q, z_A (Y.map Prod.fst) H.size q → A q := fun q h => h.elim (fun h => by
    obtain ⟨y, hy, e⟩ := List.mem_map.mp h
    rw [← e]; exact (w_D.mp hD).2 y (List.mem_append_right X hy)) (fun h => hAn q (Nat.le_trans hS.1 h))
  have g3 : va_S A s.heap T'.heap (locs ++ L) := by
    refine ⟨by rw [e1]; exact Nat.le_trans hS.1 f1, fun q h1 h2 => ?_, fun q hq => ?_⟩
    · rw [e1, f2 q (Nat.lt_of_lt_of_le h1 hS.1) (fun h => h2 (hYA q (Or.inl h)))]
      exact hS.2.1 q h1 h2
    · rcases List.mem_append.mp hq with h | h
      · exact hS.2.2 q h
      · exact hYA _ (hL q h)
  obtain ⟨t2, a1, b1⟩ := kk b hb T'.heap (locs ++ L) ls g1 g2 g3 hl T' rfl X'
  exact ⟨t2, go t2 a1, b1⟩
theorem z_blindN {X : State → Prop} (hXb : ∀ (U : State) (g : JFrame) (mk : MethodId) (a : Array Value), X U → X (U.calling g mk a)) {av : List Value} {wp : va_W} {sz : Nat} : FrameBlind (fun a U => z_pre l G D tys av wp sz a U ∧ X U) := fun _ U g mk q => ⟨⟨q.1.1, q.1.2.1, q.1.2.2.1, q.1.2.2.2.1.calling g mk _, q.1.2.2.2.2⟩, hXb U g mk _ q.2⟩
theorem z_callVN {y : MethodName} {wy wy' : List Cond} {rm : Room} {b : Nat} {As : List Value} {X0 wp : va_W} {X : State → Prop} {β : Type} {Pb : β → Prop} {vf : β → Option Value} {wf : β → va_W} {mc ms index maxL : Nat} {by' : ByteArray} {ry : Option FieldType} {C : String} {rest : List Value} {fs : List Value} {T : u_T} {N : Nat}
    (K : z_K p l s m args meth c A A D tys cc nL ret Ts own) (hM : z_MN l y wy rm A D tys (.ref b :: As) wp X Pb vf wf mc ms) (hG : GoodIn Ts (wsV own index C y wy)) (hw : wy = Cond.code y by' maxL ry :: wy') (n ci : Nat)
    (hd : y.cls = C ∧ y.cls ≠ "java/lang/invoke/MethodHandle" ∧ y.cls ≠ "java/lang/invoke/VarHandle" ∧ (parseMethodDescriptor y.desc).map (fun d => d.parameters.length) = some n) (hc : vwCl[ci]? = some (C, T, N)) (hdg : decode cc pc = .ok (.invokevirtual index, 3))
    (hXY : ws = X0 ++ wp) (hXb : ∀ (U : State) (g : JFrame) (mk : MethodId) (a : Array Value), X U → X (U.calling g mk a)) (hX : ∀ (H : Heap) (locs : List Loc), va_S A s.heap H locs → ∀ U : State, U.heap = H → s.WarmedH U.vm → X U) {q0 : Nat} (hrc : rm.cells = mc) (hrs : rm.slots = ms) (hR : rm.frames + 1 ≤ R.frames ∧ 8 + (maxL + 11) + rm.locals ≤ R.locals) (hf : cells + mc ≤ R.cells ∧ slots + ms ≤ R.slots)
    (he : ws[q0]? = some (b, .inr (ci, fs))) (hlen : As.length = n) (hstk : st = As.reverse ++ .ref b :: rest) (hcat : (rest.map fun v => v.category).sum ≤ 8)
    (kk : ∀ b : β, Pb b → Z p l e R s m args below meth c D nL A A Q (X0 ++ wf b) lv (cells + mc) (slots + ms) (pc + 3) ((vf b).toList ++ rest)) : Z p l e R s m args below meth c D nL A A Q ws lv cells slots pc st :=
  z_callN K hXY (fun H locs ls hP hD hS hl => va_runV ⟨K.1, K.2.1, K.2.2.1, K.2.2.2.1, K.2.2.2.2.1⟩ (hM H.size) (cwV n K.2.2.2.2.1 hG hw hrc hrs hd hR) ⟨z_blindN hXb, va_recv K.2.2.2.2.2.1 hP hc he, fun U hU hW => ⟨z_preI K.2.2.2.2.2.2.2.2.1 K.2.2.2.2.2.2.2.2.2.1 hP hD hS (by rw [hXY]; exact List.sublist_append_right _ _) U hU hW, hX H locs hS U hU hW⟩⟩ rfl hlen hl.1 hstk (lv_room hcat) hdg hf) kk
theorem z_callSN' {y : MethodName} {wy wy' : List Cond} {rm : Room} {As : List Value} {X0 wp : va_W} {X : State → Prop} {β : Type} {Pb : β → Prop} {vf : β → Option Value} {wf : β → va_W} {mc ms index maxL : Nat} {by' : ByteArray} {ry : Option FieldType} {rest : List Value}
    (K : z_K p l s m args meth c A A D tys cc nL ret Ts own) (hM : z_MN l y wy rm A D tys As wp X Pb vf wf mc ms) (hG : GoodIn Ts (va_wsS own index y wy)) (hw : wy = Cond.code y by' maxL ry :: wy') (n : Nat)
    (hd : y.cls ≠ "java/lang/invoke/MethodHandle" ∧ y.cls ≠ "java/lang/invoke/VarHandle" ∧ (parseMethodDescriptor y.desc).map (fun d => d.parameters.length) = some n) (hdg : decode cc pc = .ok (.invokestatic index, 3))
    (hXY : ws = X0 ++ wp) (hXb : ∀ (U : State) (g : JFrame) (mk : MethodId) (a : Array Value), X U → X (U.calling g mk a)) (hX : ∀ (H : Heap) (locs : List Loc), va_S A s.heap H locs → ∀ U : State, U.heap = H → s.WarmedH U.vm → X U) (hrc : rm.cells = mc) (hrs : rm.slots = ms) (hR : rm.frames + 1 ≤ R.frames ∧ 8 + (maxL + 11) + rm.locals ≤ R.locals) (hf : cells + mc ≤ R.cells ∧ slots + ms ≤ R.slots)
    (hlen : As.length = n) (hstk : st = As.reverse ++ rest) (hcat : (rest.map fun v => v.category).sum ≤ 8)
    (kk : ∀ b : β, Pb b → Z p l e R s m args below meth c D nL A A Q (X0 ++ wf b) lv (cells + mc) (slots + ms) (pc + 3) ((vf b).toList ++ rest)) : Z p l e R s m args below meth c D nL A A Q ws lv cells slots pc st :=
  z_callN K hXY (fun H locs ls hP hD hS hl => va_runS ⟨K.1, K.2.1, K.2.2.1, K.2.2.2.1, K.2.2.2.2.1⟩ (hM H.size) (va_cwS n K.2.2.2.2.1 hG hw hrc hrs hd hR) ⟨z_blindN hXb, fun U hU hW => ⟨z_preI K.2.2.2.2.2.2.2.2.1 K.2.2.2.2.2.2.2.2.2.1 hP hD hS (by rw [hXY]; exact List.sublist_append_right _ _) U hU hW, hX H locs hS U hU hW⟩⟩ rfl hlen hl.1 hstk (lv_room hcat) hdg hf) kk
/-- writes, where all cells of the world may be written -/
theorem z_zastG (K : z_K p l s m args meth c A A D tys cc nL ret Ts own) (t0 k : Nat) {q0 a : Nat} {cA : ClassId} {n : Nat} {f : Nat → Int32} {b : Bool} {x : Int32} (hx : x = z_b b) (ha : ws[q0]? = some (a, .inl (cA, n, .inl f))) (ht : tys[t0]? = some (cA, .boolean)) (hk : k < n) (hn : n < 2 ^ 31) (hdg : decode cc pc = .ok (.bastore, 1)) {ws' : va_W} (hws : ws.set q0 (a, .inl (cA, n, .inl (upd f k (z_b b)))) = ws') (kk : Z p l e R s m args below meth c D nL A A Q ws' lv cells slots (pc + 1) st) : Z p l e R s m args below meth c D nL A A Q ws lv cells slots pc (.int x :: .int (nI k) :: .ref a :: st) := fun H locs ls hP hD hS hl => z_zast K q0 t0 k hx ha ht hk hn hdg (hD.2 q0 _ ha) hws kk H locs ls hP hD hS hl
theorem z_iastG (K : z_K p l s m args meth c A A D tys cc nL ret Ts own) (t0 k : Nat) {q0 a : Nat} {cA : ClassId} {n : Nat} {f : Nat → Int32} {x : Int32} (ha : ws[q0]? = some (a, .inl (cA, n, .inl f))) (ht : tys[t0]? = some (cA, .int)) (hk : k < n) (hn : n < 2 ^ 31) (hdg : decode cc pc = .ok (.iastore, 1)) {ws' : va_W} (hws : ws.set q0 (a, .inl (cA, n, .inl (upd f k x))) = ws') (kk : Z p l e R s m args below meth c D nL A A Q ws' lv cells slots (pc + 1) st) : Z p l e R s m args below meth c D nL A A Q ws lv cells slots pc (.int x :: .int (nI k) :: .ref a :: st) := fun H locs ls hP hD hS hl => z_iastN K q0 t0 k hk hn ha ht hdg (hD.2 q0 _ ha) hws kk H locs ls hP hD hS hl
theorem z_aastG (K : z_K p l s m args meth c A A D tys cc nL ret Ts own) {t : FieldType} (hAO : va_AOA t s) (t0 k : Nat) {q0 q1 a v : Nat} {cA cB : ClassId} {n : Nat} {f : Nat → Option Nat} {x : vp_A} (ha : ws[q0]? = some (a, .inl (cA, n, .inr (.inr (.inr (.inr f)))))) (ht : tys[t0]? = some (cA, .array t)) (hv : ws[q1]? = some (v, .inl (cB, x))) (hcB : s.vm.findClass (FieldType.array t).toString = some cB) (hk : k < n) (hn : n < 2 ^ 31) (hdg : decode cc pc = .ok (.aastore, 1)) {ws' : va_W} (hws : ws.set q0 (a, .inl (cA, n, .inr (.inr (.inr (.inr (va_up f k (some v))))))) = ws') (kk : Z p l e R s m args below meth c D nL A A Q ws' lv cells slots (pc + 1) st) : Z p l e R s m args below meth c D nL A A Q ws lv cells slots pc (.ref v :: .int (nI k) :: .ref a :: st) := fun H locs ls hP hD hS hl => z_aast K hAO q0 q1 t0 k ha ht hv hcB hk hn hdg (hD.2 q0 _ ha) hws kk H locs ls hP hD hS hl
theorem z_putG (K : z_K p l s m args meth c A A D tys cc nL ret Ts own) {C ref : String} {T : u_T} {N ci index : Nat} (hin : ∀ w ∈ u_ws C T N, w ∈ Ts) (hc : vwCl[ci]? = some (C, T, N)) (ty0 : Nat → FieldType) (hty : ∀ k, k < N → parseFieldDescriptor (T k).2.2.1 = some (ty0 k)) (hnm : ∀ a, a < N → ∀ b, b < N → a ≠ b → (T a).2.1 ≠ (T b).2.1) {q0 a : Nat} {fs : List Value} (he : ws[q0]? = some (a, .inr (ci, fs))) (k : Nat) (hk : k < N) (hw : Cond.fieldLink own index ref (T k).2.1 (T k).2.2.1 ∈ Ts) (hsame : (T k).1 = ref) (hfin : (T k).2.2.2 = false) {v : Value} (hn : narrow (ty0 k) v = v) (hfit : fits (ty0 k) v = true) (hl0 : k < fs.length) {ws' : va_W} (hws : ws.set q0 (a, .inr (ci, fs.set k v)) = ws') (hdg : decode cc pc = .ok (.putfield index, 3)) (kk : Z p l e R s m args below meth c D nL A A Q ws' lv cells slots (pc + 3) st) : Z p l e R s m args below meth c D nL A A Q ws lv cells slots pc (v :: .ref a :: st) := fun H locs ls hP hD hS hl => z_put K hin hc ty0 hty hnm q0 he k hk hw hsame hfin hn hfit hl0 (hD.2 q0 _ he) hws hdg kk H locs ls hP hD hS hl

end ZN
end
section
/-! ===== how many places have a property ===== -/
def fb_ct (p : Nat → Bool) : Nat → Nat
  | 0 => 0
  | n + 1 => fb_ct p n + (if p n then 1 else 0)
theorem fb_ct_succ (p : Nat → Bool) (n : Nat) : fb_ct p (n + 1) = fb_ct p n + (if p n then 1 else 0) := rfl
theorem fb_ct_le (p : Nat → Bool) : ∀ n, fb_ct p n ≤ n
  | 0 => Nat.le_refl _
  | n + 1 => by
    have h := fb_ct_le p n
    rw [fb_ct_succ]
    split <;> omega
theorem fb_ct_step (p : Nat → Bool) (m : Nat) : ∀ n, fb_ct p m ≤ fb_ct p (m + n)
  | 0 => Nat.le_refl _
  | n + 1 => by
    have h := fb_ct_step p m n
    show fb_ct p m ≤ fb_ct p (m + n + 1)
    rw [fb_ct_succ]
    omega
theorem fb_ct_mono (p : Nat → Bool) {m n : Nat} (h : m ≤ n) : fb_ct p m ≤ fb_ct p n := by
  have := fb_ct_step p m (n - m)
  rwa [Nat.add_sub_cancel' h] at this
theorem fb_ct_cong {p q : Nat → Bool} : ∀ {n : Nat}, (∀ k, k < n → p k = q k) → fb_ct p n = fb_ct q n
  | 0, _ => rfl
  | n + 1, h => by
    rw [fb_ct_succ, fb_ct_succ, fb_ct_cong (fun k hk => h k (by omega)), h n (by omega)]
/-- one place changed -/
theorem fb_ct_out (p : Nat → Bool) (b : Bool) {i n : Nat} (h : n ≤ i) : fb_ct (fun k => if k = i then b else p k) n = fb_ct p n :=
  fb_ct_cong fun k hk => if_neg (by omega)
theorem fb_ct_upd (p : Nat → Bool) (b : Bool) {i : Nat} : ∀ {n : Nat}, i < n → fb_ct (fun k => if k = i then b else p k) n + (if p i then 1 else 0) = fb_ct p n + (if b then 1 else 0)
  | 0, h => absurd h (Nat.not_lt_zero i)
  | n + 1, h => by
    rw [fb_ct_succ, fb_ct_succ]
    rcases Nat.lt_or_ge i n with q | q
    · have := fb_ct_upd p b q
      have e : (if n = i then b else p n) = p n := if_neg (by omega)
      rw [e]
      omega
    · have e : i = n := by omega
      subst e
      rw [fb_ct_out p b (Nat.le_refl _)]
      simp only [if_true]
      omega
theorem fb_ct_sub {p q : Nat → Bool} : ∀ {n : Nat}, (∀ k, k < n → p k = true → q k = true) → fb_ct p n ≤ fb_ct q n
  | 0, _ => Nat.le_refl _
  | n + 1, h => by
    have h1 := fb_ct_sub (n := n) (p := p) (q := q) (fun k hk => h k (by omega))
    have h2 := h n (by omega)
    rw [fb_ct_succ, fb_ct_succ]
    cases hp : p n <;> cases hq : q n <;> simp_all <;> omega
theorem fb_ct_or {p q : Nat → Bool} : ∀ {n : Nat}, (∀ k, k < n → ¬ (p k = true ∧ q k = true)) → fb_ct (fun k => p k || q k) n = fb_ct p n + fb_ct q n
  | 0, _ => rfl
  | n + 1, h => by
    have h1 := fb_ct_or (n := n) (p := p) (q := q) (fun k hk => h k (by omega))
    have h2 := h n (by omega)
    rw [fb_ct_succ, fb_ct_succ, fb_ct_succ, h1]
    cases hp : p n <;> cases hq : q n <;> simp_all <;> omega
theorem fb_ct_not (p : Nat → Bool) : ∀ n, fb_ct p n + fb_ct (fun k => !p k) n = n
  | 0 => rfl
  | n + 1 => by
    have h := fb_ct_not p n
    rw [fb_ct_succ, fb_ct_succ]
    cases p n <;> simp <;> omega
theorem fb_ct_split (p : Nat → Bool) (m : Nat) : ∀ n, fb_ct p (m + n) = fb_ct p m + fb_ct (fun k => p (m + k)) n
  | 0 => rfl
  | n + 1 => by
    have h := fb_ct_split p m n
    show fb_ct p (m + n + 1) = _
    rw [fb_ct_succ, fb_ct_succ, h, Nat.add_assoc]
theorem fb_ct_zero {p : Nat → Bool} : ∀ {n : Nat}, fb_ct p n = 0 ↔ ∀ k, k < n → p k = false
  | 0 => ⟨fun _ k hk => absurd hk (Nat.not_lt_zero k), fun _ => rfl⟩
  | n + 1 => by
    have h := fb_ct_zero (p := p) (n := n)
    rw [fb_ct_succ]
    constructor
    · intro e k hk
      have e1 : fb_ct p n = 0 := by omega
      rcases Nat.lt_or_ge k n with q | q
      · exact h.mp e1 k q
      · have ek : k = n := by omega
        subst ek
        cases hp : p k
        · rfl
        · simp [hp] at e
    · intro a
      rw [h.mpr (fun k hk => a k (by omega)), a n (by omega)]
      rfl
theorem fb_ct_pos {p : Nat → Bool} {n : Nat} : 0 < fb_ct p n ↔ ∃ k, k < n ∧ p k = true := by
  constructor
  · intro h
    refine Classical.byContradiction fun hx => ?_
    have := fb_ct_zero.mpr (fun k hk => by
      cases hp : p k
      · rfl
      · exact absurd ⟨k, hk, hp⟩ hx : ∀ k, k < n → p k = false)
    omega
  · rintro ⟨k, hk, hp⟩
    rcases Nat.eq_zero_or_pos (fb_ct p n) with e | e
    · have := fb_ct_zero.mp e k hk
      rw [this] at hp
      cases hp
    · exact e
theorem fb_ct_all {p : Nat → Bool} {n : Nat} : fb_ct p n = n ↔ ∀ k, k < n → p k = true := by
  have h := fb_ct_not p n
  constructor
  · intro e k hk
    have z : fb_ct (fun k => !p k) n = 0 := by omega
    have := fb_ct_zero.mp z k hk
    cases hp : p k
    · simp [hp] at this
    · rfl
  · intro a
    have z : fb_ct (fun k => !p k) n = 0 := fb_ct_zero.mpr (fun k hk => by simp [a k hk])
    omega
/-- the k-th place with the property -/
theorem fb_ct_kth {p : Nat → Bool} {k : Nat} : ∀ {n : Nat}, k < fb_ct p n → ∃ i, i < n ∧ p i = true ∧ fb_ct p i = k
  | 0, h => absurd h (Nat.not_lt_zero k)
  | n + 1, h => by
    rcases Nat.lt_or_ge k (fb_ct p n) with q | q
    · obtain ⟨i, h1, h2⟩ := fb_ct_kth q
      exact ⟨i, by omega, h2⟩
    · rw [fb_ct_succ] at h
      cases hp : p n
      · simp [hp] at h; omega
      · simp [hp] at h
        exact ⟨n, by omega, hp, by omega⟩
theorem fb_ct_kth_one {p : Nat → Bool} {i j : Nat} (hi : p i = true) (hj : p j = true) (e : fb_ct p i = fb_ct p j) : i = j := by
  have key : ∀ a b : Nat, a < b → p a = true → fb_ct p a < fb_ct p b := by
    intro a b hab ha
    have h := fb_ct_mono p (show a + 1 ≤ b from hab)
    rw [fb_ct_succ, ha] at h
    simp at h
    omega
  rcases Nat.lt_trichotomy i j with q | q | q
  · have := key i j q hi; omega
  · exact q
  · have := key j i q hj; omega
/-! ===== sums over a range: one place changed, parts, bounds ===== -/
def fb_sm (f : Nat → Nat) : Nat → Nat
  | 0 => 0
  | n + 1 => fb_sm f n + f n
theorem fb_sm_succ (f : Nat → Nat) (n : Nat) : fb_sm f (n + 1) = fb_sm f n + f n := rfl
theorem fb_sm_cong {f g : Nat → Nat} : ∀ {n : Nat}, (∀ k, k < n → f k = g k) → fb_sm f n = fb_sm g n
  | 0, _ => rfl
  | n + 1, h => by rw [fb_sm_succ, fb_sm_succ, fb_sm_cong (fun k hk => h k (by omega)), h n (by omega)]
theorem fb_sm_out (f : Nat → Nat) (v : Nat) {i n : Nat} (h : n ≤ i) : fb_sm (fun k => if k = i then v else f k) n = fb_sm f n :=
  fb_sm_cong fun k hk => if_neg (by omega)
theorem fb_sm_upd (f : Nat → Nat) (v : Nat) {i : Nat} : ∀ {n : Nat}, i < n → fb_sm (fun k => if k = i then v else f k) n + f i = fb_sm f n + v
  | 0, h => absurd h (Nat.not_lt_zero i)
  | n + 1, h => by
    rw [fb_sm_succ, fb_sm_succ]
    rcases Nat.lt_or_ge i n with q | q
    · have := fb_sm_upd f v q
      have e : (if n = i then v else f n) = f n := if_neg (by omega)
      rw [e]
      omega
    · have e : i = n := by omega
      subst e
      rw [fb_sm_out f v (Nat.le_refl _)]
      simp only [if_true]
      omega
theorem fb_sm_add (f g : Nat → Nat) : ∀ n, fb_sm (fun k => f k + g k) n = fb_sm f n + fb_sm g n
  | 0 => rfl
  | n + 1 => by
    have h := fb_sm_add f g n
    rw [fb_sm_succ, fb_sm_succ, fb_sm_succ, h]
    omega
theorem fb_sm_le {f g : Nat → Nat} : ∀ {n : Nat}, (∀ k, k < n → f k ≤ g k) → fb_sm f n ≤ fb_sm g n
  | 0, _ => Nat.le_refl _
  | n + 1, h => by
    have h1 := fb_sm_le (n := n) (f := f) (g := g) (fun k hk => h k (by omega))
    have h2 := h n (by omega)
    rw [fb_sm_succ, fb_sm_succ]
    omega
theorem fb_sm_const (c : Nat) : ∀ n, fb_sm (fun _ => c) n = n * c
  | 0 => by rw [Nat.zero_mul]; rfl
  | n + 1 => by rw [fb_sm_succ, fb_sm_const c n, Nat.succ_mul]
theorem fb_sm_bound {f : Nat → Nat} {c n : Nat} (h : ∀ k, k < n → f k ≤ c) : fb_sm f n ≤ n * c := by
  rw [← fb_sm_const c n]
  exact fb_sm_le h
theorem fb_sm_mono (f : Nat → Nat) (m : Nat) : ∀ n, fb_sm f m ≤ fb_sm f (m + n)
  | 0 => Nat.le_refl _
  | n + 1 => by
    have h := fb_sm_mono f m n
    show fb_sm f m ≤ fb_sm f (m + n + 1)
    rw [fb_sm_succ]
    omega
theorem fb_sm_part (f : Nat → Nat) {i n : Nat} (h : i < n) : fb_sm f i + f i ≤ fb_sm f n := by
  have := fb_sm_mono f (i + 1) (n - (i + 1))
  rw [fb_sm_succ, show i + 1 + (n - (i + 1)) = n by omega] at this
  exact this
theorem fb_sm_split (f : Nat → Nat) (m : Nat) : ∀ n, fb_sm f (m + n) = fb_sm f m + fb_sm (fun k => f (m + k)) n
  | 0 => rfl
  | n + 1 => by
    have h := fb_sm_split f m n
    show fb_sm f (m + n + 1) = _
    rw [fb_sm_succ, fb_sm_succ, h, Nat.add_assoc]
theorem fb_sm_zero {f : Nat → Nat} {n : Nat} (h : fb_sm f n = 0) : ∀ k, k < n → f k = 0 := fun k hk => by
  have := fb_sm_part f hk
  omega
/-! what the methods compute, in plain functions -/
/-- the steps 0 .. n-1 of a counted loop -/
def z_fold {σ : Type} (f : Nat → σ → σ) (s0 : σ) : Nat → σ
  | 0 => s0
  | n + 1 => f n (z_fold f s0 n)
theorem z_fold_succ {σ : Type} (f : Nat → σ → σ) (s0 : σ) (n : Nat) : z_fold f s0 (n + 1) = f n (z_fold f s0 n) := rfl
/-- a set has a number -/
def hs (x n : Int32) : Bool := decide (¬ (x >>> (n &&& 31)) &&& 1 = 0)
def bitI (n : Int32) : Int32 := 1 <<< (n &&& 31)
/-- the bits of a number, counted -/
def bi (x : Int32) (i : Nat) : Bool := x.toBitVec.getLsbD i
def pcN (x : Int32) : Nat := fb_ct (bi x) 32
def pc (x : Int32) : Int32 := nI (pcN x)
def tu (x n : Int32) : Int32 := x ^^^ (1 <<< (n &&& 31))
def sal (x : Int32) : Int32 := x &&& (-x)
def cntS (lt : Nat → Int32) (w : Int32) : Nat → Int32 := z_fold (fun v a => a + pc (lt v &&& w)) 0
def allS (n : Nat) : Int32 := 1 <<< (nI n &&& 31) - 1
def ban (lm lb fm fb : Nat → Int32) (f v : Nat) : Bool := hs (lm v) (fm f) || decide (¬ (lb v &&& fb f) = 0)
/-- the book -/
def wrV (fv : Nat → Int32) (n : Nat) (pw : Int32) : Nat → Int32 := if pw < 0 then upd fv n 0 else upd (upd fv n 0) pw.toNatClampNeg (upd fv n 0 pw.toNatClampNeg ||| 1 <<< (nI n &&& 31))
def wrA (fa : Nat → Int32) (n : Nat) (pw : Int32) : Nat → Int32 := if pw < 0 then upd fa n (1 <<< (nI n &&& 31)) else upd (upd fa n (1 <<< (nI n &&& 31))) n (upd fa n (1 <<< (nI n &&& 31)) n ||| upd fa n (1 <<< (nI n &&& 31)) pw.toNatClampNeg)
def wmS (fm : Nat → Int32) (w : Int32) : Nat → Int32 := z_fold (fun f a => if fm f = w then a ||| 1 <<< (nI f &&& 31) else a) 0
def wbS (fb : Nat → Int32) (w : Int32) : Nat → Int32 := z_fold (fun f a => if hs (fb f) w then a ||| 1 <<< (nI f &&& 31) else a) 0
/-- the land -/
def welS (lm lb fm fb : Nat → Int32) (v : Nat) : Nat → Int32 := z_fold (fun f a => if ban lm lb fm fb f v then a else a ||| 1 <<< (nI f &&& 31)) 0
def cpS (g f : Nat → Int32) : Nat → Nat → Int32 := z_fold (fun v a => upd a v (g v)) f
def turnW (lw : Nat → Int32) (a b : Nat) : Nat → Int32 := upd (upd lw a (tu (lw a) (nI b))) b (tu (upd lw a (tu (lw a) (nI b)) b) (nI a))
def hushK (la lt lk : Nat → Int32) : Nat → Nat → Int32 := z_fold (fun v a => upd a v (lt v &&& la v)) lk
def hushH (la lt : Nat → Int32) (hu : Int32) : Nat → Int32 := z_fold (fun v a => a + pc (lt v &&& (la v ^^^ (-1)))) hu
def arrS (lw lk : Nat → Int32) (v : Nat) : Nat → Int32 := z_fold (fun w a => if hs (lw v) (nI w) then a ||| lk w else a) 0
def admS (lm la fm fv : Nat → Int32) (v : Nat) (x : Int32) : Nat → Int32 := z_fold (fun f a => if hs (x &&& (la v ^^^ (-1))) (nI f) then (if hs (lm v) (fm f) then a else a ||| sal (fv f &&& la v)) else a) (x &&& la v)
def thenS (lw lm la lk fm fv : Nat → Int32) (n v : Nat) : Int32 := lk v ||| admS lm la fm fv v (arrS lw lk v 6) n
def sprT (lw lm la lk fm fv : Nat → Int32) (n : Nat) (lt : Nat → Int32) : Nat → Nat → Int32 := z_fold (fun v a => upd a v (thenS lw lm la lk fm fv n v)) lt
def sprC (lw lm la lk fm fv : Nat → Int32) (n : Nat) (lt : Nat → Int32) : Nat → Bool := z_fold (fun v a => a || !decide (thenS lw lm la lk fm fv n v = sprT lw lm la lk fm fv n lt v v)) false
theorem sprC_succ (lw lm la lk fm fv : Nat → Int32) (n : Nat) (lt : Nat → Int32) (k : Nat) : sprC lw lm la lk fm fv n lt (k + 1) = (sprC lw lm la lk fm fv n lt k || !decide (thenS lw lm la lk fm fv n k = sprT lw lm la lk fm fv n lt k k)) := rfl
def alS (lm lb fm fb : Nat → Int32) (n : Nat) (la : Nat → Int32) : Nat → Nat → Int32 := z_fold (fun v a => upd a v (welS lm lb fm fb v n)) la
def stepS (lw lm la fm fv : Nat → Int32) (n : Nat) (x : (Nat → Int32) × (Nat → Int32) × Int32 × Bool) : (Nat → Int32) × (Nat → Int32) × Int32 × Bool := (sprT lw lm la (hushK la x.1 x.2.1 6) fm fv n x.1 6, hushK la x.1 x.2.1 6, hushH la x.1 x.2.2.1 6, sprC lw lm la (hushK la x.1 x.2.1 6) fm fv n x.1 6)
def livS (lw lm la fm fv : Nat → Int32) (n : Nat) (lt lk : Nat → Int32) (hu : Int32) : Nat → (Nat → Int32) × (Nat → Int32) × Int32 × Bool := z_fold (fun _ x => if x.2.2.2 then stepS lw lm la fm fv n x else x) (lt, lk, hu, true)
theorem livS_succ (lw lm la fm fv : Nat → Int32) (n : Nat) (lt lk : Nat → Int32) (hu : Int32) (k : Nat) : livS lw lm la fm fv n lt lk hu (k + 1) = if (livS lw lm la fm fv n lt lk hu k).2.2.2 then stepS lw lm la fm fv n (livS lw lm la fm fv n lt lk hu k) else livS lw lm la fm fv n lt lk hu k := rfl
theorem livS_stop {lw lm la fm fv : Nat → Int32} {n : Nat} {lt lk : Nat → Int32} {hu : Int32} {k : Nat} (h : (livS lw lm la fm fv n lt lk hu k).2.2.2 = false) : ∀ {q : Nat}, k ≤ q → livS lw lm la fm fv n lt lk hu k = livS lw lm la fm fv n lt lk hu q := by
  intro q hq
  induction q with
  | zero => rw [show k = 0 by omega]
  | succ q ih =>
    rcases Nat.lt_or_ge q k with g | g
    · rw [show k = q + 1 by omega]
    · rw [livS_succ, ← ih g, h]; rfl
/-- ranges and codes -/
def fin (x : Int32) (n : Nat) : Bool := decide (¬ x < 0) && decide (x < nI n)
def ix (x : Int32) : Nat := x.toNatClampNeg
theorem ix_nI {j : Nat} (h : j < 2 ^ 31) : ix (nI j) = j := nI_clamp h
theorem fin_ix {x : Int32} {n : Nat} (h : fin x n = true) (hn : n < 2 ^ 31) : ∃ j : Nat, j < n ∧ x = nI j := by
  simp only [fin, Bool.and_eq_true, decide_eq_true_eq] at h
  obtain ⟨j, hj, rfl⟩ := nI_of h.1
  exact ⟨j, (nI_ltI hj hn).mp h.2, rfl⟩
theorem fin_nI {j n : Nat} (hj : j < n) (hn : n < 2 ^ 31) : fin (nI j) n = true := by
  simp only [fin, Bool.and_eq_true, decide_eq_true_eq]
  exact ⟨nI_pos (by omega), (nI_ltI (by omega) hn).mpr hj⟩
def sea (x y : Int32) : Bool := decide (¬ x < 1) && decide (x ≤ y)
theorem sea_ix {x y : Int32} {m : Nat} (h : sea x y = true) (hy : y = nI m) (hm : m < 2 ^ 31) : ∃ q : Nat, q ≤ m ∧ 1 ≤ q ∧ x = nI q := by
  simp only [sea, Bool.and_eq_true, decide_eq_true_eq] at h
  have h0 : ¬ x < 0 := fun g => h.1 (by
    have h1 : x.toInt < (0 : Int32).toInt := Int32.lt_iff_toInt_lt.mp g
    have h2 : (0 : Int32).toInt = 0 := by decide
    have h3 : (1 : Int32).toInt = 1 := by decide
    exact Int32.lt_iff_toInt_lt.mpr (by omega))
  obtain ⟨j, hj, rfl⟩ := nI_of h0
  subst hy
  refine ⟨j, (nI_leI hj hm).mp h.2, Nat.one_le_iff_ne_zero.mpr (fun e => h.1 (by rw [e]; decide)), rfl⟩
def z_exc (e1 e2 : String) (c : Nat) (E : String) : Prop := (c = 1 ∧ E = e1) ∨ (c = 2 ∧ E = e2)
def gi : Nat → Int32
  | 0 => -1
  | k + 1 => nI k
def grF (w : Int32) : Nat → Int32
  | 0 => -1
  | k + 1 => if hs w (nI k) then nI k else grF w k
/-- the class's calls -/
def cdAF (w x y : Int32) (n : Nat) : Nat := if fin w 10 && (fin x 12 && fin y 6) then (if n < 20 then 0 else 2) else 1
def cdAB (w x : Int32) (n : Nat) (fb fv : Nat → Int32) : Nat := if fin w n && fin x 12 then (if hs (fb (ix w)) x then 2 else if fv (ix w) = 0 then 0 else 2) else 1
def abF (fb : Nat → Int32) (f : Nat) (x : Int32) : Nat → Int32 := upd fb f (fb f ||| 1 <<< (x &&& 31))
def cdAV (w x y z : Int32) (n : Nat) (fb : Nat → Int32) : Nat := if fin w n && (fin x 12 && (fin y 12 && fin z 6)) then (if n < 20 then (if hs (fb (ix w)) x then (if hs (fb (ix w)) y then 2 else 0) else 2) else 2) else 1
def cdTP (w x : Int32) : Nat := if fin w 6 && fin x 6 then (if w = x then 2 else 0) else 1
def cd1 (a : Bool) : Nat := if a then 0 else 1
def cdTell (w x : Int32) (n : Nat) (lm lb lt fm fb : Nat → Int32) : Nat := if fin w n && fin x 6 then (if hs (lt (ix x)) w then 2 else if ban lm lb fm fb (ix w) (ix x) then 2 else 0) else 1
def cdForg (w x : Int32) (n : Nat) (lt : Nat → Int32) : Nat := if fin w n && fin x 6 then (if hs (lt (ix x)) w then 0 else 2) else 1
def favM (lt fm : Nat → Int32) (n : Nat) : Nat → Int32 × Int32 := z_fold (fun m x => if cntS lt (wmS fm (nI m) n) 6 ≤ x.2 then x else (nI m, cntS lt (wmS fm (nI m) n) 6)) (-1, 0)
theorem favM_succ (lt fm : Nat → Int32) (n k : Nat) : favM lt fm n (k + 1) = if cntS lt (wmS fm (nI k) n) 6 ≤ (favM lt fm n k).2 then favM lt fm n k else (nI k, cntS lt (wmS fm (nI k) n) 6) := rfl
def favB (lt fb : Nat → Int32) (n : Nat) : Nat → Int32 × Int32 := z_fold (fun m x => if cntS lt (wbS fb (nI m) n) 6 ≤ x.2 then x else (nI m, cntS lt (wbS fb (nI m) n) 6)) (-1, 0)
theorem favB_succ (lt fb : Nat → Int32) (n k : Nat) : favB lt fb n (k + 1) = if cntS lt (wbS fb (nI k) n) 6 ≤ (favB lt fb n k).2 then favB lt fb n k else (nI k, cntS lt (wbS fb (nI k) n) 6) := rfl
def kinS (a b : Int32) : Int32 := if a &&& b = 0 then -1 else pc (a ^^^ b)
theorem gi_dec (k : Nat) : nI k + Int32.ofInt (-1) = gi k := by
  cases k with
  | zero => decide
  | succ k => show nI (k + 1) + Int32.ofInt (-1) = nI k; rw [← nI_pred k, Int32.sub_eq_add_neg]; rfl
/-- checksums -/
def mx (d : Int64) (x : Int32) : Int64 := d * 31 + x.toInt64
def foldB (p : Nat → Bool) (d : Int64) : Nat → Int64 := z_fold (fun k a => mx a (z_b (p k))) d
theorem foldB_succ (p : Nat → Bool) (d : Int64) (k : Nat) : foldB p d (k + 1) = mx (foldB p d k) (z_b (p k)) := rfl
def mfS (lm lb lt fm fb fh fp fv : Nat → Int32) (d : Int64) (f : Nat) : Int64 := foldB (fun v => ban lm lb fm fb f v) (foldB (fun v => hs (lt v) (nI f)) (foldB (fun b => hs (fb f) (nI b)) (mx (mx (mx (mx (mx (mx d (fm f)) (pc (fb f))) (fh f)) (fp f)) (pc (fv f))) (cntS lt (1 <<< (nI f &&& 31)) 6)) 12) 6) 6
def mvS (lw lm lb lt fm fb : Nat → Int32) (n : Nat) (d : Int64) (v : Nat) : Int64 := foldB (fun o => hs (lw v) (nI o)) (mx (mx (mx d (pc (lt v))) (pc (welS lm lb fm fb v n))) (pc (lm v) + pc (lb v))) 6
def dg0 (lt fm fb : Nat → Int32) (n : Nat) (se hu : Int32) : Int64 := mx (mx (mx (mx (mx (mx 1861 (nI n)) se) (cntS lt (allS n) 6)) hu) (favM lt fm n 10).1) (favB lt fb n 12).1
def dg1 (lm lb lt fm fb fh fp fv : Nat → Int32) (d : Int64) : Nat → Int64 := z_fold (fun f a => mfS lm lb lt fm fb fh fp fv a f) d
def dg2 (lw lm lb lt fm fb : Nat → Int32) (n : Nat) (d : Int64) : Nat → Int64 := z_fold (fun v a => mvS lw lm lb lt fm fb n a v) d
/-- the trial land: ways, morals, beasts, told, allowed, kept, hushed -/
abbrev TS : Type := (Nat → Int32) × (Nat → Int32) × (Nat → Int32) × (Nat → Int32) × (Nat → Int32) × (Nat → Int32) × Int32
def becT (lw lm lb lt : Nat → Int32) (hu : Int32) (t : TS) : TS := (cpS lw t.1 6, cpS lm t.2.1 6, cpS lb t.2.2.1 6, cpS lt t.2.2.2.1 6, t.2.2.2.2.1, t.2.2.2.2.2.1, hu)
def trnT (i j : Nat) (t : TS) : TS := (turnW t.1 i j, t.2)
def livL (fm fb fv : Nat → Int32) (n q : Nat) (t : TS) : (Nat → Int32) × (Nat → Int32) × Int32 × Bool := livS t.1 t.2.1 (alS t.2.1 t.2.2.1 fm fb n t.2.2.2.2.1 6) fm fv n t.2.2.2.1 t.2.2.2.2.2.1 t.2.2.2.2.2.2 q
def livT (fm fb fv : Nat → Int32) (n q : Nat) (t : TS) : TS := (t.1, t.2.1, t.2.2.1, (livL fm fb fv n q t).1, alS t.2.1 t.2.2.1 fm fb n t.2.2.2.2.1 6, (livL fm fb fv n q t).2.1, (livL fm fb fv n q t).2.2.1)
def telT (n : Nat) (t : TS) : Int32 := cntS t.2.2.2.1 (allS n) 6
def untS (fm fb fv : Nat → Int32) (n f v : Nat) (t : TS) : Nat → TS × Int32 := z_fold (fun k x => if hs (x.1.2.2.2.1 v) (nI f) then x else (livT fm fb fv n 1 x.1, nI (k + 1))) (t, nI 0)
theorem untS_succ (fm fb fv : Nat → Int32) (n f v : Nat) (t : TS) (k : Nat) : untS fm fb fv n f v t (k + 1) = if hs ((untS fm fb fv n f v t k).1.2.2.2.1 v) (nI f) then untS fm fb fv n f v t k else (livT fm fb fv n 1 (untS fm fb fv n f v t k).1, nI (k + 1)) := rfl
theorem untS_stop {fm fb fv : Nat → Int32} {n f v : Nat} {t : TS} {k : Nat} (h : hs ((untS fm fb fv n f v t k).1.2.2.2.1 v) (nI f) = true) : ∀ {q : Nat}, k ≤ q → untS fm fb fv n f v t k = untS fm fb fv n f v t q := by
  intro q hq
  induction q with
  | zero => rw [show k = 0 by omega]
  | succ q ih =>
    rcases Nat.lt_or_ge q k with g | g
    · rw [show k = q + 1 by omega]
    · rw [untS_succ, ← ih g, if_pos h]
def untR (fm fb fv : Nat → Int32) (n f v : Nat) (t : TS) : Int32 := if hs ((untS fm fb fv n f v t 40).1.2.2.2.1 v) (nI f) then (untS fm fb fv n f v t 40).2 else -1
/-- the best pass: the trial land, the best so far, its tellings -/
def bpT (lw lm lb lt : Nat → Int32) (hu : Int32) (fm fb fv : Nat → Int32) (n q a b : Nat) (t : TS) : TS := livT fm fb fv n q (trnT a b (becT lw lm lb lt hu t))
def bpB (lw lm lb lt : Nat → Int32) (hu : Int32) (fm fb fv : Nat → Int32) (n q a b : Nat) (x : TS × Int32 × Int32) : TS × Int32 × Int32 :=
  if hs (lw a) (nI b) then (if 0 ≤ x.2.2 then x else (x.1, 6 * nI a + nI b, 0))
  else if telT n (bpT lw lm lb lt hu fm fb fv n q a b x.1) ≤ x.2.2 then (bpT lw lm lb lt hu fm fb fv n q a b x.1, x.2) else (bpT lw lm lb lt hu fm fb fv n q a b x.1, 6 * nI a + nI b, telT n (bpT lw lm lb lt hu fm fb fv n q a b x.1))
def bpI (lw lm lb lt : Nat → Int32) (hu : Int32) (fm fb fv : Nat → Int32) (n q a : Nat) (x : TS × Int32 × Int32) : Nat → TS × Int32 × Int32 := z_fold (fun d y => bpB lw lm lb lt hu fm fb fv n q a (a + 1 + d) y) x
theorem bpI_succ (lw lm lb lt : Nat → Int32) (hu : Int32) (fm fb fv : Nat → Int32) (n q a : Nat) (x : TS × Int32 × Int32) (d : Nat) : bpI lw lm lb lt hu fm fb fv n q a x (d + 1) = bpB lw lm lb lt hu fm fb fv n q a (a + 1 + d) (bpI lw lm lb lt hu fm fb fv n q a x d) := rfl
def bpO (lw lm lb lt : Nat → Int32) (hu : Int32) (fm fb fv : Nat → Int32) (n q : Nat) (x : TS × Int32 × Int32) : Nat → TS × Int32 × Int32 := z_fold (fun a y => bpI lw lm lb lt hu fm fb fv n q a y (5 - a)) x
def bp0 (lw lm lb lt : Nat → Int32) (hu : Int32) (fm fb fv : Nat → Int32) (n q : Nat) (t : TS) : TS × Int32 × Int32 := (livT fm fb fv n q (becT lw lm lb lt hu t), -1, telT n (livT fm fb fv n q (becT lw lm lb lt hu t)))
theorem dg1_0 (lm lb lt fm fb fh fp fv : Nat → Int32) (d : Int64) : dg1 lm lb lt fm fb fh fp fv d 0 = d := rfl
theorem dg1_succ (lm lb lt fm fb fh fp fv : Nat → Int32) (d : Int64) (k : Nat) : dg1 lm lb lt fm fb fh fp fv d (k + 1) = mfS lm lb lt fm fb fh fp fv (dg1 lm lb lt fm fb fh fp fv d k) k := rfl
theorem dg2_0 (lw lm lb lt fm fb : Nat → Int32) (n : Nat) (d : Int64) : dg2 lw lm lb lt fm fb n d 0 = d := rfl
theorem dg2_succ (lw lm lb lt fm fb : Nat → Int32) (n : Nat) (d : Int64) (k : Nat) : dg2 lw lm lb lt fm fb n d (k + 1) = mvS lw lm lb lt fm fb n (dg2 lw lm lb lt fm fb n d k) k := rfl
theorem untS_0 (fm fb fv : Nat → Int32) (n f v : Nat) (t : TS) : untS fm fb fv n f v t 0 = (t, nI 0) := rfl
theorem bpI_0 (lw lm lb lt : Nat → Int32) (hu : Int32) (fm fb fv : Nat → Int32) (n q a : Nat) (x : TS × Int32 × Int32) : bpI lw lm lb lt hu fm fb fv n q a x 0 = x := rfl
theorem bpO_0 (lw lm lb lt : Nat → Int32) (hu : Int32) (fm fb fv : Nat → Int32) (n q : Nat) (x : TS × Int32 × Int32) : bpO lw lm lb lt hu fm fb fv n q x 0 = x := rfl
theorem bpO_succ (lw lm lb lt : Nat → Int32) (hu : Int32) (fm fb fv : Nat → Int32) (n q : Nat) (x : TS × Int32 × Int32) (a : Nat) : bpO lw lm lb lt hu fm fb fv n q x (a + 1) = bpI lw lm lb lt hu fm fb fv n q a (bpO lw lm lb lt hu fm fb fv n q x a) (5 - a) := rfl
end
section
/-! what the reference's methods compute -/
def inI (x lo hi : Int32) : Bool := !decide (x < lo) && !decide (hi < x)
theorem inI_fin (w : Int32) {n : Nat} (hn : n < 2 ^ 31) : inI w 0 (nI n - 1) = fin w n := by
  by_cases h : w < 0
  · simp [inI, fin, h]
  · obtain ⟨j, hj, rfl⟩ := nI_of h
    simp only [inI, fin, h, decide_false, Bool.not_false, Bool.true_and, decide_true]
    cases n with
    | zero =>
      have h1 : nI 0 - 1 = -1 := by decide
      have h2 : (-1 : Int32) < nI j := by
        have : ((-1 : Int32)).toInt = -1 := by decide
        exact Int32.lt_iff_toInt_lt.mpr (by rw [this, nI_toInt hj]; omega)
      have h3 : ¬ nI j < nI 0 := fun g => absurd ((nI_ltI hj (by omega)).mp g) (by omega)
      rw [h1]; simp [h2, h3]
    | succ n =>
      rw [nI_pred]
      by_cases g : j < n + 1
      · have h2 : ¬ nI n < nI j := fun q => absurd ((nI_ltI (by omega) hj).mp q) (by omega)
        have h3 : nI j < nI (n + 1) := (nI_ltI hj hn).mpr g
        simp [h2, h3]
      · have h2 : nI n < nI j := (nI_ltI (by omega) hj).mpr (by omega)
        have h3 : ¬ nI j < nI (n + 1) := fun q => g ((nI_ltI hj hn).mp q)
        simp [h2, h3]
theorem inI_lit (w : Int32) {n : Nat} {m : Int32} (hn : n < 2 ^ 31) (hm : m = nI n - 1) : inI w 0 m = fin w n := by rw [hm, inI_fin w hn]
theorem inI_sea (w m : Int32) : inI w 1 m = sea w m := by
  by_cases h : w < 1
  · simp [inI, sea, h]
  · by_cases g : m < w
    · have : ¬ w ≤ m := Int32.not_le.mpr g
      simp [inI, sea, h, g, this]
    · have : w ≤ m := Int32.not_lt.mp g
      simp [inI, sea, h, g, this]
theorem and1 (y : Int32) : y &&& 1 = 0 ∨ y &&& 1 = 1 := by
  obtain ⟨j, hj, h⟩ := pk_andE y (m := 1) 1 rfl
  rcases (show j = 0 ∨ j = 1 by omega) with rfl | rfl
  · exact Or.inl h
  · exact Or.inr h
theorem hs1 {x n : Int32} : hs x n = true ↔ (x >>> (n &&& 31)) &&& 1 = 1 := by
  simp only [hs, decide_eq_true_eq]
  rcases and1 (x >>> (n &&& 31)) with h | h
  · rw [h]; decide
  · rw [h]; decide
def chS (fp : Nat → Int32) (f : Nat) : Nat → Int32 := z_fold (fun k a => a + (if fp k = nI f then 1 else 0)) 0
theorem chS_succ (fp : Nat → Int32) (f k : Nat) : chS fp f (k + 1) = chS fp f k + (if fp k = nI f then 1 else 0) := rfl
def plS (lt : Nat → Int32) (f : Nat) : Nat → Int32 := z_fold (fun v a => a + z_b (hs (lt v) (nI f))) 0
theorem plS_succ (lt : Nat → Int32) (f v : Nat) : plS lt f (v + 1) = plS lt f v + z_b (hs (lt v) (nI f)) := rfl
def allM (lt : Nat → Int32) : Nat → Int32 := z_fold (fun v a => a + pc (lt v)) 0
/-- the first that has it -/
def fstF (p : Nat → Bool) : Nat → Int32
  | 0 => -1
  | k + 1 => if fstF p k = -1 then (if p k then nI k else -1) else fstF p k
theorem fstF_stop {p : Nat → Bool} {k : Nat} (h0 : fstF p k = -1) (hp : p k = true) (hk : k < 2 ^ 31) : ∀ {n : Nat}, k < n → fstF p n = nI k := by
  intro n hn
  have hne : ¬ nI k = -1 := fun e => by
    have h1 := nI_pos hk
    rw [e] at h1
    exact h1 (by decide)
  induction n with
  | zero => exact absurd hn (Nat.not_lt_zero _)
  | succ n ih =>
    rcases Nat.lt_or_ge k n with g | g
    · rw [fstF, ih g, if_neg hne]
    · have : n = k := by omega
      subst this
      rw [fstF, if_pos h0, if_pos hp]
theorem fstF_next {p : Nat → Bool} {k : Nat} (h0 : fstF p k = -1) (hp : p k = false) : fstF p (k + 1) = -1 := by
  rw [fstF, if_pos h0, if_neg (by rw [hp]; decide)]
def varP (lm lb fm fb fp : Nat → Int32) (f v : Nat) (k : Nat) : Bool := decide (fp k = nI f) && !ban lm lb fm fb k v
def comS (lm lb fm fb fp : Nat → Int32) (n f v : Nat) : Int32 := if ban lm lb fm fb f v then (if hs (lm v) (fm f) then -1 else fstF (varP lm lb fm fb fp f v) n) else nI f
/-- a season of the reference: first step -/
def s1I (lm lb fm fb : Nat → Int32) (v : Nat) (x : (Nat → Int32) × Int32) : Nat → (Nat → Int32) × Int32 := z_fold (fun f x => if hs (x.1 v) (nI f) then (if ban lm lb fm fb f v then (upd x.1 v (x.1 v &&& ((1 <<< (nI f &&& 31)) ^^^ (-1))), x.2 + 1) else x) else x) x
theorem s1I_succ (lm lb fm fb : Nat → Int32) (v : Nat) (x : (Nat → Int32) × Int32) (f : Nat) : s1I lm lb fm fb v x (f + 1) = if hs ((s1I lm lb fm fb v x f).1 v) (nI f) then (if ban lm lb fm fb f v then (upd (s1I lm lb fm fb v x f).1 v ((s1I lm lb fm fb v x f).1 v &&& ((1 <<< (nI f &&& 31)) ^^^ (-1))), (s1I lm lb fm fb v x f).2 + 1) else s1I lm lb fm fb v x f) else s1I lm lb fm fb v x f := rfl
def s1O (lm lb fm fb : Nat → Int32) (n : Nat) (lt nx : Nat → Int32) : Nat → ((Nat → Int32) × Int32) × (Nat → Int32) := z_fold (fun v y => (s1I lm lb fm fb v y.1 n, upd y.2 v ((s1I lm lb fm fb v y.1 n).1 v))) ((lt, 0), nx)
/-- second step -/
def s2F (lm lb fm fb fp : Nat → Int32) (n : Nat) (lt : Nat → Int32) (v to : Nat) (nx : Nat → Int32) : Nat → Nat → Int32 := z_fold (fun f a => if hs (lt v) (nI f) then (if comS lm lb fm fb fp n f to = -1 then a else upd a to (a to ||| (1 <<< (comS lm lb fm fb fp n f to &&& 31)))) else a) nx
theorem s2F_succ (lm lb fm fb fp : Nat → Int32) (n : Nat) (lt : Nat → Int32) (v to : Nat) (nx : Nat → Int32) (f : Nat) : s2F lm lb fm fb fp n lt v to nx (f + 1) = if hs (lt v) (nI f) then (if comS lm lb fm fb fp n f to = -1 then s2F lm lb fm fb fp n lt v to nx f else upd (s2F lm lb fm fb fp n lt v to nx f) to (s2F lm lb fm fb fp n lt v to nx f to ||| (1 <<< (comS lm lb fm fb fp n f to &&& 31)))) else s2F lm lb fm fb fp n lt v to nx f := rfl
def s2T (lw lm lb fm fb fp : Nat → Int32) (n : Nat) (lt : Nat → Int32) (v : Nat) (nx : Nat → Int32) : Nat → Nat → Int32 := z_fold (fun to a => if hs (lw v) (nI to) then s2F lm lb fm fb fp n lt v to a n else a) nx
theorem s2T_succ (lw lm lb fm fb fp : Nat → Int32) (n : Nat) (lt : Nat → Int32) (v : Nat) (nx : Nat → Int32) (to : Nat) : s2T lw lm lb fm fb fp n lt v nx (to + 1) = if hs (lw v) (nI to) then s2F lm lb fm fb fp n lt v to (s2T lw lm lb fm fb fp n lt v nx to) n else s2T lw lm lb fm fb fp n lt v nx to := rfl
def s2V (lw lm lb fm fb fp : Nat → Int32) (n : Nat) (lt nx : Nat → Int32) : Nat → Nat → Int32 := z_fold (fun v a => s2T lw lm lb fm fb fp n lt v a 6) nx
def seaN (lw lm lb fm fb fp : Nat → Int32) (n : Nat) (lt nx : Nat → Int32) : Nat → Int32 := s2V lw lm lb fm fb fp n (s1O lm lb fm fb n lt nx 6).1.1 (s1O lm lb fm fb n lt nx 6).2 6
def seaL (lw lm lb fm fb fp : Nat → Int32) (n : Nat) (lt nx : Nat → Int32) : Nat → Int32 := va_cpy (seaN lw lm lb fm fb fp n lt nx) (s1O lm lb fm fb n lt nx 6).1.1 0 0 6
def seaG (lm lb fm fb : Nat → Int32) (n : Nat) (lt nx : Nat → Int32) : Int32 := (s1O lm lb fm fb n lt nx 6).1.2
/-- seasons of the reference: told, next, silenced -/
def seaS (lw lm lb fm fb fp : Nat → Int32) (n : Nat) (x : (Nat → Int32) × (Nat → Int32) × Int32) : Nat → (Nat → Int32) × (Nat → Int32) × Int32 := z_fold (fun _ x => (seaL lw lm lb fm fb fp n x.1 x.2.1, seaN lw lm lb fm fb fp n x.1 x.2.1, x.2.2 + seaG lm lb fm fb n x.1 x.2.1)) x
theorem s1I_0 (lm lb fm fb : Nat → Int32) (v : Nat) (x : (Nat → Int32) × Int32) : s1I lm lb fm fb v x 0 = x := rfl
theorem s1O_0 (lm lb fm fb : Nat → Int32) (n : Nat) (lt nx : Nat → Int32) : s1O lm lb fm fb n lt nx 0 = ((lt, 0), nx) := rfl
theorem s1O_succ (lm lb fm fb : Nat → Int32) (n : Nat) (lt nx : Nat → Int32) (v : Nat) : s1O lm lb fm fb n lt nx (v + 1) = (s1I lm lb fm fb v (s1O lm lb fm fb n lt nx v).1 n, upd (s1O lm lb fm fb n lt nx v).2 v ((s1I lm lb fm fb v (s1O lm lb fm fb n lt nx v).1 n).1 v)) := rfl
theorem s2F_0 (lm lb fm fb fp : Nat → Int32) (n : Nat) (lt : Nat → Int32) (v to : Nat) (nx : Nat → Int32) : s2F lm lb fm fb fp n lt v to nx 0 = nx := rfl
theorem s2T_0 (lw lm lb fm fb fp : Nat → Int32) (n : Nat) (lt : Nat → Int32) (v : Nat) (nx : Nat → Int32) : s2T lw lm lb fm fb fp n lt v nx 0 = nx := rfl
theorem s2V_0 (lw lm lb fm fb fp : Nat → Int32) (n : Nat) (lt nx : Nat → Int32) : s2V lw lm lb fm fb fp n lt nx 0 = nx := rfl
theorem s2V_succ (lw lm lb fm fb fp : Nat → Int32) (n : Nat) (lt nx : Nat → Int32) (v : Nat) : s2V lw lm lb fm fb fp n lt nx (v + 1) = s2T lw lm lb fm fb fp n lt v (s2V lw lm lb fm fb fp n lt nx v) 6 := rfl
theorem seaS_0 (lw lm lb fm fb fp : Nat → Int32) (n : Nat) (x : (Nat → Int32) × (Nat → Int32) × Int32) : seaS lw lm lb fm fb fp n x 0 = x := rfl
theorem seaS_succ (lw lm lb fm fb fp : Nat → Int32) (n : Nat) (x : (Nat → Int32) × (Nat → Int32) × Int32) (k : Nat) : seaS lw lm lb fm fb fp n x (k + 1) = (seaL lw lm lb fm fb fp n (seaS lw lm lb fm fb fp n x k).1 (seaS lw lm lb fm fb fp n x k).2.1, seaN lw lm lb fm fb fp n (seaS lw lm lb fm fb fp n x k).1 (seaS lw lm lb fm fb fp n x k).2.1, (seaS lw lm lb fm fb fp n x k).2.2 + seaG lm lb fm fb n (seaS lw lm lb fm fb fp n x k).1 (seaS lw lm lb fm fb fp n x k).2.1) := rfl
/-- the reference's calls -/
def cdABm (w x : Int32) (n : Nat) (fb fp : Nat → Int32) : Nat := if fin w n && fin x 12 then (if hs (fb (ix w)) x then 2 else if chS fp (ix w) n ≤ 0 then 0 else 2) else 1
def anS (fp : Nat → Int32) (f : Nat) : Nat → Int32 × Int32 := z_fold (fun _ x => if x.2 = -1 then x else (x.1 ||| (1 <<< (x.2 &&& 31)), fp (ix x.2))) (0, nI f)
theorem anS_0 (fp : Nat → Int32) (f : Nat) : anS fp f 0 = (0, nI f) := rfl
theorem anS_succ (fp : Nat → Int32) (f k : Nat) : anS fp f (k + 1) = if (anS fp f k).2 = -1 then anS fp f k else ((anS fp f k).1 ||| (1 <<< ((anS fp f k).2 &&& 31)), fp (ix (anS fp f k).2)) := rfl
theorem anS_stop {fp : Nat → Int32} {f k : Nat} (h : (anS fp f k).2 = -1) : ∀ {q : Nat}, k ≤ q → anS fp f k = anS fp f q := by
  intro q hq
  induction q with
  | zero => rw [show k = 0 by omega]
  | succ q ih =>
    rcases Nat.lt_or_ge q k with g | g
    · rw [show k = q + 1 by omega]
    · rw [anS_succ, ← ih g, if_pos h]
theorem nI_ne_m1 {j : Nat} (h : j < 2 ^ 31) : ¬ nI j = -1 := fun e => by
  have h1 := nI_pos h
  rw [e] at h1
  exact h1 (by decide)
theorem gi_sub (n : Nat) : nI n - 1 = gi n := by
  rw [← gi_dec n, Int32.sub_eq_add_neg]; rfl
def unM (lw lm lb fm fb fp : Nat → Int32) (n f v : Nat) (x : (Nat → Int32) × (Nat → Int32)) : Nat → ((Nat → Int32) × (Nat → Int32)) × Int32 := z_fold (fun k x => if hs (x.1.1 v) (nI f) then x else ((seaL lw lm lb fm fb fp n x.1.1 x.1.2, seaN lw lm lb fm fb fp n x.1.1 x.1.2), nI (k + 1))) (x, nI 0)
theorem unM_0 (lw lm lb fm fb fp : Nat → Int32) (n f v : Nat) (x : (Nat → Int32) × (Nat → Int32)) : unM lw lm lb fm fb fp n f v x 0 = (x, nI 0) := rfl
theorem unM_succ (lw lm lb fm fb fp : Nat → Int32) (n f v : Nat) (x : (Nat → Int32) × (Nat → Int32)) (k : Nat) : unM lw lm lb fm fb fp n f v x (k + 1) = if hs ((unM lw lm lb fm fb fp n f v x k).1.1 v) (nI f) then unM lw lm lb fm fb fp n f v x k else ((seaL lw lm lb fm fb fp n (unM lw lm lb fm fb fp n f v x k).1.1 (unM lw lm lb fm fb fp n f v x k).1.2, seaN lw lm lb fm fb fp n (unM lw lm lb fm fb fp n f v x k).1.1 (unM lw lm lb fm fb fp n f v x k).1.2), nI (k + 1)) := rfl
theorem unM_stop {lw lm lb fm fb fp : Nat → Int32} {n f v : Nat} {x : (Nat → Int32) × (Nat → Int32)} {k : Nat} (h : hs ((unM lw lm lb fm fb fp n f v x k).1.1 v) (nI f) = true) : ∀ {q : Nat}, k ≤ q → unM lw lm lb fm fb fp n f v x k = unM lw lm lb fm fb fp n f v x q := by
  intro q hq
  induction q with
  | zero => rw [show k = 0 by omega]
  | succ q ih =>
    rcases Nat.lt_or_ge q k with g | g
    · rw [show k = q + 1 by omega]
    · rw [unM_succ, ← ih g, if_pos h]
def unR (y : Int32) : Int32 := if y ≤ 40 then y else -1
def kinM (a b : Int32) (n : Nat) : Int32 := if grF (a &&& b) n = -1 then -1 else pc (a ^^^ b)
/-- after(seasons) -/
def aftT (lw lm lb fm fb fp : Nat → Int32) (n q : Nat) (lt nx : Nat → Int32) : Int32 := allM (seaS lw lm lb fm fb fp n (lt, nx, 0) q).1 6
def favX (lt fm fb : Nat → Int32) (n : Nat) (b : Bool) (m : Nat) : Nat → Int32 := z_fold (fun f a => if (if b then decide (fm f = nI m) else hs (fb f) (nI m)) then a + plS lt f 6 else a) 0
theorem favX_succ (lt fm fb : Nat → Int32) (n : Nat) (b : Bool) (m f : Nat) : favX lt fm fb n b m (f + 1) = if (if b then decide (fm f = nI m) else hs (fb f) (nI m)) then favX lt fm fb n b m f + plS lt f 6 else favX lt fm fb n b m f := rfl
def favY (lt fm fb : Nat → Int32) (n : Nat) (b : Bool) : Nat → Int32 × Int32 := z_fold (fun m x => if x.2 < favX lt fm fb n b m n then (nI m, favX lt fm fb n b m n) else x) (-1, 0)
theorem favY_0 (lt fm fb : Nat → Int32) (n : Nat) (b : Bool) : favY lt fm fb n b 0 = (-1, 0) := rfl
theorem favY_succ (lt fm fb : Nat → Int32) (n : Nat) (b : Bool) (m : Nat) : favY lt fm fb n b (m + 1) = if (favY lt fm fb n b m).2 < favX lt fm fb n b m n then (nI m, favX lt fm fb n b m n) else favY lt fm fb n b m := rfl
def awS (lm lb fm fb : Nat → Int32) (v : Nat) : Nat → Int32 := z_fold (fun f a => a + (if ban lm lb fm fb f v then 0 else 1)) 0
theorem awS_succ (lm lb fm fb : Nat → Int32) (v f : Nat) : awS lm lb fm fb v (f + 1) = awS lm lb fm fb v f + (if ban lm lb fm fb f v then 0 else 1) := rfl
def fwM (fm : Nat → Int32) (w : Int32) : Nat → Int32 := z_fold (fun f a => a + (if fm f = w then 1 else 0)) 0
theorem fwM_succ (fm : Nat → Int32) (w : Int32) (f : Nat) : fwM fm w (f + 1) = fwM fm w f + (if fm f = w then 1 else 0) := rfl
def fwB (fb : Nat → Int32) (w : Int32) : Nat → Int32 := z_fold (fun f a => a + z_b (hs (fb f) w)) 0
theorem fwB_succ (fb : Nat → Int32) (w : Int32) (f : Nat) : fwB fb w (f + 1) = fwB fb w f + z_b (hs (fb f) w) := rfl
end
section
/-- the reference's best pass: passes, told, next, kept; the best so far, its tellings -/
abbrev PM : Type := (Nat → Int32) × (Nat → Int32) × (Nat → Int32) × (Nat → Int32)
def orW (lw : Nat → Int32) (a b : Nat) : Nat → Int32 := upd (upd lw a (lw a ||| (1 <<< (nI b &&& 31)))) b (upd lw a (lw a ||| (1 <<< (nI b &&& 31))) b ||| (1 <<< (nI a &&& 31)))
def anW (lw : Nat → Int32) (a b : Nat) : Nat → Int32 := upd (upd lw a (lw a &&& ((1 <<< (nI b &&& 31)) ^^^ (-1)))) b (upd lw a (lw a &&& ((1 <<< (nI b &&& 31)) ^^^ (-1))) b &&& ((1 <<< (nI a &&& 31)) ^^^ (-1)))
def aftP (lm lb fm fb fp : Nat → Int32) (n q : Nat) (x : PM) : PM := (x.1, va_cpy (va_cpy x.2.1 x.2.2.2 0 0 6) (seaS x.1 lm lb fm fb fp n (x.2.1, x.2.2.1, 0) q).1 0 0 6, (seaS x.1 lm lb fm fb fp n (x.2.1, x.2.2.1, 0) q).2.1, va_cpy x.2.1 x.2.2.2 0 0 6)
def bmB (lm lb fm fb fp : Nat → Int32) (n q a b : Nat) (x : PM × Int32 × Int32) : PM × Int32 × Int32 :=
  if hs (x.1.1 a) (nI b) then x
  else if x.2.2 < aftT (orW x.1.1 a b) lm lb fm fb fp n q x.1.2.1 x.1.2.2.1 then ((anW (orW x.1.1 a b) a b, (aftP lm lb fm fb fp n q (orW x.1.1 a b, x.1.2)).2), 6 * nI a + nI b, aftT (orW x.1.1 a b) lm lb fm fb fp n q x.1.2.1 x.1.2.2.1)
  else ((anW (orW x.1.1 a b) a b, (aftP lm lb fm fb fp n q (orW x.1.1 a b, x.1.2)).2), x.2)
def bmI (lm lb fm fb fp : Nat → Int32) (n q a : Nat) (x : PM × Int32 × Int32) : Nat → PM × Int32 × Int32 := z_fold (fun d y => bmB lm lb fm fb fp n q a (a + 1 + d) y) x
theorem bmI_0 (lm lb fm fb fp : Nat → Int32) (n q a : Nat) (x : PM × Int32 × Int32) : bmI lm lb fm fb fp n q a x 0 = x := rfl
theorem bmI_succ (lm lb fm fb fp : Nat → Int32) (n q a : Nat) (x : PM × Int32 × Int32) (d : Nat) : bmI lm lb fm fb fp n q a x (d + 1) = bmB lm lb fm fb fp n q a (a + 1 + d) (bmI lm lb fm fb fp n q a x d) := rfl
def bmO (lm lb fm fb fp : Nat → Int32) (n q : Nat) (x : PM × Int32 × Int32) : Nat → PM × Int32 × Int32 := z_fold (fun a y => bmI lm lb fm fb fp n q a y (5 - a)) x
theorem bmO_0 (lm lb fm fb fp : Nat → Int32) (n q : Nat) (x : PM × Int32 × Int32) : bmO lm lb fm fb fp n q x 0 = x := rfl
theorem bmO_succ (lm lb fm fb fp : Nat → Int32) (n q : Nat) (x : PM × Int32 × Int32) (a : Nat) : bmO lm lb fm fb fp n q x (a + 1) = bmI lm lb fm fb fp n q a (bmO lm lb fm fb fp n q x a) (5 - a) := rfl
def bm0 (lm lb fm fb fp : Nat → Int32) (n q : Nat) (x : PM) : PM × Int32 × Int32 := (aftP lm lb fm fb fp n q x, -1, aftT x.1 lm lb fm fb fp n q x.2.1 x.2.2.1)
/-- the mean -/
def sumB (fb : Nat → Int32) : Nat → Int32 := z_fold (fun f a => a + pc (fb f)) 0
theorem sumB_0 (fb : Nat → Int32) : sumB fb 0 = 0 := rfl
theorem sumB_succ (fb : Nat → Int32) (f : Nat) : sumB fb (f + 1) = sumB fb f + pc (fb f) := rfl
theorem sumB_le (fb : Nat → Int32) : ∀ n : Nat, ∃ i : Nat, i ≤ 32 * n ∧ sumB fb n = nI i
  | 0 => ⟨0, Nat.le_refl _, rfl⟩
  | n + 1 => by
    obtain ⟨i, hi, e⟩ := sumB_le fb n
    have h : pcN (fb n) ≤ 32 := fb_ct_le (bi (fb n)) 32
    exact ⟨i + pcN (fb n), by omega, by rw [sumB_succ, e]; exact nI_add i (pcN (fb n))⟩
def meaD (fb : Nat → Int32) (n : Nat) : UInt64 := if nI n = 0 then 0 else FP.ddiv (FP.i2d (sumB fb n)) (FP.i2d (nI n))
theorem dv1 : ∀ i, i < 641 → ∀ j, j < 20 → vf_n64 (FP.ddiv (FP.i2d (nI i)) (FP.i2d (nI (j + 1)))) := by unfold vf_n64; decide +kernel
theorem mea_ok (fb : Nat → Int32) {n : Nat} (hn : n ≤ 20) (h : ¬ nI n = 0) : vf_n64 (FP.ddiv (FP.i2d (sumB fb n)) (FP.i2d (nI n))) := by
  obtain ⟨i, hi, e⟩ := sumB_le fb n
  have h0 : n ≠ 0 := fun e => h (by rw [e]; rfl)
  rw [e]
  have := dv1 i (by omega) (n - 1) (by omega)
  rw [show n - 1 + 1 = n by omega] at this
  exact this
end
section
/-! numbers: the bits of a number, counted in two ways -/
theorem nand (a b : Nat) : nI a &&& nI b = nI (a &&& b) := by
  apply Int32.toBitVec_inj.1
  show BitVec.ofNat 32 a &&& BitVec.ofNat 32 b = BitVec.ofNat 32 (a &&& b)
  apply BitVec.eq_of_getLsbD_eq
  intro i hi
  simp [hi]
theorem bi_nI (a i : Nat) (hi : i < 32) : bi (nI a) i = a.testBit i := by
  show (BitVec.ofNat 32 a).getLsbD i = a.testBit i
  rw [BitVec.getLsbD_ofNat]
  simp [hi]
def cnt (a n : Nat) : Nat := fb_ct (fun i => a.testBit i) n
theorem pcN_nI (a : Nat) : pcN (nI a) = cnt a 32 := fb_ct_cong (fun k hk => bi_nI a k hk)
theorem ex_nI (x : Int32) : ∃ a : Nat, a < 2 ^ 32 ∧ x = nI a := ⟨x.toBitVec.toNat, x.toBitVec.isLt, by
  apply Int32.toBitVec_inj.1
  show x.toBitVec = BitVec.ofNat 32 x.toBitVec.toNat
  rw [BitVec.ofNat_toNat, BitVec.setWidth_eq]⟩
theorem ct_peel (p : Nat → Bool) : ∀ n, fb_ct p (n + 1) = (if p 0 then 1 else 0) + fb_ct (fun k => p (k + 1)) n
  | 0 => by simp [fb_ct]
  | n + 1 => by rw [fb_ct_succ, ct_peel p n, fb_ct_succ (fun k => p (k + 1)) n]; omega
theorem cnt_peel (a n : Nat) : cnt a (n + 1) = (if a % 2 = 1 then 1 else 0) + cnt (a / 2) n := by
  show fb_ct (fun i => a.testBit i) (n + 1) = _
  rw [ct_peel]
  have e : (fun k => a.testBit (k + 1)) = (fun k => (a / 2).testBit k) := funext fun k => Nat.testBit_add_one a k
  rw [e]
  simp only [Nat.testBit_zero, decide_eq_true_eq]
  rfl
theorem cnt_low : ∀ (n a : Nat), a < 2 ^ n → a ≠ 0 → cnt (a &&& (a - 1)) n + 1 = cnt a n
  | 0, a, h, h0 => absurd (show a = 0 by omega) h0
  | n + 1, a, h, h0 => by
    rw [cnt_peel, cnt_peel]
    have hdiv : (a &&& (a - 1)) / 2 = (a / 2) &&& ((a - 1) / 2) := Nat.eq_of_testBit_eq fun i => by rw [← Nat.testBit_add_one, Nat.testBit_and, Nat.testBit_and, Nat.testBit_add_one, Nat.testBit_add_one]
    have hmod : (a &&& (a - 1)) % 2 = 0 := by
      have h1 : (a &&& (a - 1)).testBit 0 = false := by
        rw [Nat.testBit_and, Nat.testBit_zero, Nat.testBit_zero]
        rcases Nat.mod_two_eq_zero_or_one a with e | e
        · simp [e]
        · have : (a - 1) % 2 = 0 := by omega
          simp [this]
      rw [Nat.testBit_zero] at h1
      have := of_decide_eq_false h1
      omega
    rw [hdiv, hmod]
    rcases Nat.mod_two_eq_zero_or_one a with e | e
    · have e2 : (a - 1) / 2 = a / 2 - 1 := by omega
      have ih := cnt_low n (a / 2) (by omega) (by omega)
      rw [e2, e]
      simp only [if_neg (show ¬ (0 : Nat) = 1 by decide)]
      omega
    · have e2 : (a - 1) / 2 = a / 2 := by omega
      rw [e2, Nat.and_self, e]
      simp only [if_neg (show ¬ (0 : Nat) = 1 by decide), if_true]
      omega
theorem pcN_0 : pcN 0 = 0 := by decide +kernel
theorem pcN_low {x : Int32} (h : ¬ x = 0) : pcN (x &&& (x - 1)) + 1 = pcN x := by
  obtain ⟨a, ha, rfl⟩ := ex_nI x
  have h0 : a ≠ 0 := fun e => h (by rw [e]; rfl)
  have h1 : (1 : Int32) = nI 1 := rfl
  rw [h1, pk_sub (by omega), nand, pcN_nI, pcN_nI]
  exact cnt_low 32 a ha h0
/-- a number by its bytes: & byte by byte -/
theorem and_cat {i : Nat} {a b c d : Nat} (hb : b < 2 ^ i) (hd : d < 2 ^ i) : (2 ^ i * a + b) &&& (2 ^ i * c + d) = 2 ^ i * (a &&& c) + (b &&& d) := by
  have hbd : b &&& d < 2 ^ i := Nat.lt_of_le_of_lt Nat.and_le_left hb
  apply Nat.eq_of_testBit_eq
  intro j
  rw [Nat.testBit_and, Nat.testBit_two_pow_mul_add a hb, Nat.testBit_two_pow_mul_add c hd, Nat.testBit_two_pow_mul_add (a &&& c) hbd]
  by_cases h : j < i
  · simp [h, Nat.testBit_and]
  · simp [h, Nat.testBit_and]
theorem and4 {a0 a1 a2 a3 : Nat} (m : Nat) (h0 : a0 < 256) (h1 : a1 < 256) (h2 : a2 < 256) (h3 : a3 < 256) (hm : m < 256) : (a0 + 256 * a1 + 65536 * a2 + 16777216 * a3) &&& (16843009 * m) = (a0 &&& m) + 256 * (a1 &&& m) + 65536 * (a2 &&& m) + 16777216 * (a3 &&& m) := by
  have e1 : a0 + 256 * a1 + 65536 * a2 + 16777216 * a3 = 2 ^ 8 * (2 ^ 8 * (2 ^ 8 * a3 + a2) + a1) + a0 := by omega
  have e2 : 16843009 * m = 2 ^ 8 * (2 ^ 8 * (2 ^ 8 * m + m) + m) + m := by omega
  rw [e1, e2, and_cat h0 hm, and_cat h1 hm, and_cat h2 hm]
  omega
def t1 (r : Nat) : Nat := r - ((r / 2) &&& 85)
def t2 (r : Nat) : Nat := (t1 r &&& 51) + ((t1 r / 4) &&& 51)
def t3 (r : Nat) : Nat := (t2 r + t2 r / 16) &&& 15
theorem t_a : ∀ r, r < 256 → ∀ c, c < 2 → ((r / 2 + 128 * c) &&& 85) = ((r / 2) &&& 85) ∧ ((r / 2) &&& 85) ≤ r := by decide +kernel
theorem t_b : ∀ r, r < 256 → ∀ c, c < 4 → ((t1 r / 4 + 64 * c) &&& 51) = ((t1 r / 4) &&& 51) ∧ t1 r < 256 := by decide +kernel
theorem t_c : ∀ r, r < 256 → t2 r ≤ 68 ∧ t2 r % 16 ≤ 4 ∧ t3 r = cnt r 8 ∧ t3 r ≤ 8 := by decide +kernel
theorem t_d : ∀ r, r < 256 → ∀ c, c < 5 → ((t2 r + t2 r / 16 + 16 * c) &&& 15) = t3 r := by decide +kernel
theorem cnt_byte (a n : Nat) : ∀ k, cnt a (k + n) = cnt (a % 2 ^ k) k + cnt (a / 2 ^ k) n := by
  intro k
  show fb_ct (fun i => a.testBit i) (k + n) = _
  rw [fb_ct_split]
  congr 1
  · refine fb_ct_cong fun j hj => ?_
    show a.testBit j = (a % 2 ^ k).testBit j
    rw [Nat.testBit_mod_two_pow]; simp [hj]
  · refine fb_ct_cong fun j _ => ?_
    show a.testBit (k + j) = (a / 2 ^ k).testBit j
    rw [Nat.testBit_div_two_pow, Nat.add_comm]
def bcN (a : Nat) : Nat :=
  let x1 := a - ((a / 2) &&& 1431655765)
  let x2 := (x1 &&& 858993459) + ((x1 / 4) &&& 858993459)
  let x3 := (x2 + x2 / 16) &&& 252645135
  let x4 := x3 + x3 / 256
  let x5 := x4 + x4 / 65536
  x5 &&& 63
theorem bcN_cnt {a : Nat} (ha : a < 2 ^ 32) : bcN a = cnt a 32 := by
  obtain ⟨r0, r1, r2, r3, g0, g1, g2, g3, rfl⟩ : ∃ r0 r1 r2 r3 : Nat, r0 < 256 ∧ r1 < 256 ∧ r2 < 256 ∧ r3 < 256 ∧ a = r0 + 256 * r1 + 65536 * r2 + 16777216 * r3 := ⟨a % 256, a / 256 % 256, a / 65536 % 256, a / 16777216, by omega, by omega, by omega, by omega, by omega⟩
  have s1 : (r0 + 256 * r1 + 65536 * r2 + 16777216 * r3) - (((r0 + 256 * r1 + 65536 * r2 + 16777216 * r3) / 2) &&& 1431655765) = t1 r0 + 256 * t1 r1 + 65536 * t1 r2 + 16777216 * t1 r3 := by
    have e : (r0 + 256 * r1 + 65536 * r2 + 16777216 * r3) / 2 = (r0 / 2 + 128 * (r1 % 2)) + 256 * (r1 / 2 + 128 * (r2 % 2)) + 65536 * (r2 / 2 + 128 * (r3 % 2)) + 16777216 * (r3 / 2 + 128 * 0) := by omega
    rw [e, show 1431655765 = 16843009 * 85 from rfl, and4 85 (by omega) (by omega) (by omega) (by omega) (by omega), (t_a r0 g0 _ (by omega)).1, (t_a r1 g1 _ (by omega)).1, (t_a r2 g2 _ (by omega)).1, (t_a r3 g3 _ (by omega)).1]
    have k0 := (t_a r0 g0 0 (by omega)).2
    have k1 := (t_a r1 g1 0 (by omega)).2
    have k2 := (t_a r2 g2 0 (by omega)).2
    have k3 := (t_a r3 g3 0 (by omega)).2
    unfold t1
    omega
  have b0 := (t_b r0 g0 0 (by omega)).2
  have b1 := (t_b r1 g1 0 (by omega)).2
  have b2 := (t_b r2 g2 0 (by omega)).2
  have b3 := (t_b r3 g3 0 (by omega)).2
  have s2 : ((t1 r0 + 256 * t1 r1 + 65536 * t1 r2 + 16777216 * t1 r3) &&& 858993459) + (((t1 r0 + 256 * t1 r1 + 65536 * t1 r2 + 16777216 * t1 r3) / 4) &&& 858993459) = t2 r0 + 256 * t2 r1 + 65536 * t2 r2 + 16777216 * t2 r3 := by
    have e : (t1 r0 + 256 * t1 r1 + 65536 * t1 r2 + 16777216 * t1 r3) / 4 = (t1 r0 / 4 + 64 * (t1 r1 % 4)) + 256 * (t1 r1 / 4 + 64 * (t1 r2 % 4)) + 65536 * (t1 r2 / 4 + 64 * (t1 r3 % 4)) + 16777216 * (t1 r3 / 4 + 64 * 0) := by omega
    rw [e, show 858993459 = 16843009 * 51 from rfl, and4 51 (by omega) (by omega) (by omega) (by omega) (by omega), and4 51 (by omega) (by omega) (by omega) (by omega) (by omega), (t_b r0 g0 _ (by omega)).1, (t_b r1 g1 _ (by omega)).1, (t_b r2 g2 _ (by omega)).1, (t_b r3 g3 _ (by omega)).1]
    unfold t2
    omega
  obtain ⟨c0, d0, p0, q0⟩ := t_c r0 g0
  obtain ⟨c1, d1, p1, q1⟩ := t_c r1 g1
  obtain ⟨c2, d2, p2, q2⟩ := t_c r2 g2
  obtain ⟨c3, d3, p3, q3⟩ := t_c r3 g3
  have s3 : ((t2 r0 + 256 * t2 r1 + 65536 * t2 r2 + 16777216 * t2 r3) + (t2 r0 + 256 * t2 r1 + 65536 * t2 r2 + 16777216 * t2 r3) / 16) &&& 252645135 = t3 r0 + 256 * t3 r1 + 65536 * t3 r2 + 16777216 * t3 r3 := by
    have e : (t2 r0 + 256 * t2 r1 + 65536 * t2 r2 + 16777216 * t2 r3) + (t2 r0 + 256 * t2 r1 + 65536 * t2 r2 + 16777216 * t2 r3) / 16 = (t2 r0 + t2 r0 / 16 + 16 * (t2 r1 % 16)) + 256 * (t2 r1 + t2 r1 / 16 + 16 * (t2 r2 % 16)) + 65536 * (t2 r2 + t2 r2 / 16 + 16 * (t2 r3 % 16)) + 16777216 * (t2 r3 + t2 r3 / 16 + 16 * 0) := by omega
    rw [e, show 252645135 = 16843009 * 15 from rfl, and4 15 (by omega) (by omega) (by omega) (by omega) (by omega), t_d r0 g0 _ (by omega), t_d r1 g1 _ (by omega), t_d r2 g2 _ (by omega), t_d r3 g3 _ (by omega)]
  have hc : cnt (r0 + 256 * r1 + 65536 * r2 + 16777216 * r3) 32 = t3 r0 + t3 r1 + t3 r2 + t3 r3 := by
    rw [show 32 = 8 + 24 from rfl, cnt_byte, show 24 = 8 + 16 from rfl, cnt_byte, show 16 = 8 + 8 from rfl, cnt_byte, p0, p1, p2, p3]
    have e0 : (r0 + 256 * r1 + 65536 * r2 + 16777216 * r3) % 2 ^ 8 = r0 := by omega
    have e1 : (r0 + 256 * r1 + 65536 * r2 + 16777216 * r3) / 2 ^ 8 = r1 + 256 * r2 + 65536 * r3 := by omega
    have e2 : (r1 + 256 * r2 + 65536 * r3) % 2 ^ 8 = r1 := by omega
    have e3 : (r1 + 256 * r2 + 65536 * r3) / 2 ^ 8 = r2 + 256 * r3 := by omega
    have e4 : (r2 + 256 * r3) % 2 ^ 8 = r2 := by omega
    have e5 : (r2 + 256 * r3) / 2 ^ 8 = r3 := by omega
    rw [e0, e1, e2, e3, e4, e5]
    omega
  rw [hc]
  show (((_ &&& 252645135) + (_ &&& 252645135) / 256) + ((_ &&& 252645135) + (_ &&& 252645135) / 256) / 65536) &&& 63 = _
  rw [s1, s2, s3]
  have hm : ∀ z : Nat, z &&& 63 = z % 64 := fun z => Nat.and_two_pow_sub_one_eq_mod z 6
  rw [hm]
  generalize t3 r0 = z0 at q0 ⊢
  generalize t3 r1 = z1 at q1 ⊢
  generalize t3 r2 = z2 at q2 ⊢
  generalize t3 r3 = z3 at q3 ⊢
  have f1 : (z0 + 256 * z1 + 65536 * z2 + 16777216 * z3) / 256 = z1 + 256 * z2 + 65536 * z3 := by omega
  rw [f1]
  have f2 : (z0 + 256 * z1 + 65536 * z2 + 16777216 * z3 + (z1 + 256 * z2 + 65536 * z3)) / 65536 = z2 + z3 + 256 * z3 := by omega
  rw [f2]
  have f3 : z0 + 256 * z1 + 65536 * z2 + 16777216 * z3 + (z1 + 256 * z2 + 65536 * z3) + (z2 + z3 + 256 * z3) = (z0 + z1 + z2 + z3) + 64 * (4 * z1 + 4 * z2 + 1024 * z2 + 1024 * z3 + 262144 * z3 + 4 * z3) := by omega
  rw [f3, Nat.add_mul_mod_self_left]
  exact Nat.mod_eq_of_lt (by omega)
def bcI (w : Int32) : Int32 :=
  let ush := fun (x s : Int32) => (x.toUInt32 >>> (Int32.toUInt32 s &&& Int32.toUInt32 31)).toInt32
  let x1 := w - (ush w 1 &&& 1431655765)
  let x2 := (x1 &&& 858993459) + (ush x1 2 &&& 858993459)
  let x3 := (x2 + ush x2 4) &&& 252645135
  let x4 := x3 + ush x3 8
  let x5 := x4 + ush x4 16
  x5 &&& 63
theorem and_lt {a b n : Nat} (h : a < n) : a &&& b < n := Nat.lt_of_le_of_lt Nat.and_le_left h
theorem bcI_pc (w : Int32) : bcI w = pc w := by
  obtain ⟨a, ha, rfl⟩ := ex_nI w
  have l1 : (1431655765 : Int32) = nI 1431655765 := rfl
  have l2 : (858993459 : Int32) = nI 858993459 := rfl
  have l3 : (252645135 : Int32) = nI 252645135 := rfl
  have l4 : (63 : Int32) = nI 63 := rfl
  have h1 : a - ((a / 2) &&& 1431655765) < 2 ^ 32 := by omega
  have hle : ((a / 2) &&& 1431655765) ≤ a := Nat.le_trans Nat.and_le_left (by omega)
  show _ = nI (pcN (nI a))
  rw [pcN_nI, ← bcN_cnt ha]
  have e1 : nI a - (((nI a).toUInt32 >>> (Int32.toUInt32 1 &&& Int32.toUInt32 31)).toInt32 &&& 1431655765) = nI (a - ((a / 2) &&& 1431655765)) := by
    rw [l1, pk_ushrN ha 1 1 (by decide), nand]
    exact pk_sub (by simpa using hle)
  generalize hx1 : a - ((a / 2) &&& 1431655765) = x1 at e1 h1
  have e2 : (nI x1 &&& 858993459) + (((nI x1).toUInt32 >>> (Int32.toUInt32 2 &&& Int32.toUInt32 31)).toInt32 &&& 858993459) = nI ((x1 &&& 858993459) + ((x1 / 4) &&& 858993459)) := by
    rw [l2, pk_ushrN h1 2 2 (by decide), nand, nand, nI_add]
  have h2 : (x1 &&& 858993459) + ((x1 / 4) &&& 858993459) < 2 ^ 32 := by
    have g1 : x1 &&& 858993459 ≤ 858993459 := Nat.and_le_right
    have g2 : (x1 / 4) &&& 858993459 ≤ 858993459 := Nat.and_le_right
    omega
  generalize hx2 : (x1 &&& 858993459) + ((x1 / 4) &&& 858993459) = x2 at e2 h2
  have e3 : (nI x2 + ((nI x2).toUInt32 >>> (Int32.toUInt32 4 &&& Int32.toUInt32 31)).toInt32) &&& 252645135 = nI ((x2 + x2 / 16) &&& 252645135) := by
    rw [l3, pk_ushrN h2 4 4 (by decide), nI_add, nand]
  have h3 : (x2 + x2 / 16) &&& 252645135 < 2 ^ 28 := Nat.lt_of_le_of_lt Nat.and_le_right (by omega)
  generalize hx3 : (x2 + x2 / 16) &&& 252645135 = x3 at e3 h3
  have e4 : nI x3 + ((nI x3).toUInt32 >>> (Int32.toUInt32 8 &&& Int32.toUInt32 31)).toInt32 = nI (x3 + x3 / 256) := by
    rw [pk_ushrN (show x3 < 2 ^ 32 by omega) 8 8 (by decide), nI_add]
  have h4 : x3 + x3 / 256 < 2 ^ 30 := by omega
  generalize hx4 : x3 + x3 / 256 = x4 at e4 h4
  have e5 : nI x4 + ((nI x4).toUInt32 >>> (Int32.toUInt32 16 &&& Int32.toUInt32 31)).toInt32 = nI (x4 + x4 / 65536) := by
    rw [pk_ushrN (show x4 < 2 ^ 32 by omega) 16 16 (by decide), nI_add]
  have e6 : bcN a = (x4 + x4 / 65536) &&& 63 := by
    show ((((_ + _) &&& 252645135) + _ / 256) + _ / 65536) &&& 63 = _
    rw [hx1, hx2, hx3, hx4]
  rw [e6]
  simp only [bcI]
  rw [e1, e2, e3, e4, e5, l4, nand]
end
section
set_option maxRecDepth 100000 in
set_option maxHeartbeats 4000000 in
theorem m_X2_has (l : Launch) (G : Nat → Prop) (D : va_G) (cI cZ cQ cW : ClassId) (w : Int32) (k : Int32)  : z_M l yX2_has wsX2_has { frames := 0, cells := 0, slots := 0, locals := 0 } G D [(cI, .int), (cZ, .boolean), (cQ, .array .int), (cW, .array .boolean)] [.int w, .int k] ([]) (some (.int (z_b (hs w k)))) [] 0 0 := by
  refine z_ofW (cc := cX2_has) (nL := 2) (ret := (some .boolean)) (by decide) rfl (Nat.le_of_ble_eq_true rfl) [] rfl (lv0 := [(0, .int w), (1, .int k)]) rfl ?_
  intro p e s m args below meth c K
  refine z_iload_n K 0 dX2_has_0 rfl ?_
  refine z_iload_n K 1 dX2_has_1 rfl ?_
  refine z_ishr K dX2_has_2 ?_
  refine z_iconst (v := 1) K dX2_has_3 (by decide) ?_
  refine z_iand K dX2_has_4 ?_
  refine z_if_eq K 12 dX2_has_5 (by decide) (fun c5 => ?_) (fun c5 => ?_)
  · refine z_iconst (v := 0) K dX2_has_12 (by decide) ?_
    exact z_zret K dX2_has_13 (by simp [z_b, hs, c5]) [] rfl (by decide) (by decide)
  · refine z_iconst (v := 1) K dX2_has_8 (by decide) ?_
    refine z_goto K 13 dX2_has_9 (by decide) ?_
    exact z_zret K dX2_has_13 (by simp [z_b, hs, c5]) [] rfl (by decide) (by decide)

set_option maxRecDepth 100000 in
set_option maxHeartbeats 4000000 in
theorem m_X2_turned (l : Launch) (G : Nat → Prop) (D : va_G) (cI cZ cQ cW : ClassId) (w : Int32) (k : Int32)  : z_M l yX2_turned wsX2_turned { frames := 0, cells := 0, slots := 0, locals := 0 } G D [(cI, .int), (cZ, .boolean), (cQ, .array .int), (cW, .array .boolean)] [.int w, .int k] ([]) (some (.int (tu w k))) [] 0 0 := by
  refine z_ofW (cc := cX2_turned) (nL := 2) (ret := (some .int)) (by decide) rfl (Nat.le_of_ble_eq_true rfl) [] rfl (lv0 := [(0, .int w), (1, .int k)]) rfl ?_
  intro p e s m args below meth c K
  refine z_iload_n K 0 dX2_turned_0 rfl ?_
  refine z_iconst (v := 1) K dX2_turned_1 (by decide) ?_
  refine z_iload_n K 1 dX2_turned_2 rfl ?_
  refine z_ishl K dX2_turned_3 ?_
  refine z_ixor K dX2_turned_4 ?_
  exact z_iret K dX2_turned_5 (rfl) [] rfl (by decide) (by decide)

set_option maxRecDepth 100000 in
set_option maxHeartbeats 4000000 in
theorem m_X2_smallestAlone (l : Launch) (G : Nat → Prop) (D : va_G) (cI cZ cQ cW : ClassId) (w : Int32)  : z_M l yX2_smallestAlone wsX2_smallestAlone { frames := 0, cells := 0, slots := 0, locals := 0 } G D [(cI, .int), (cZ, .boolean), (cQ, .array .int), (cW, .array .boolean)] [.int w] ([]) (some (.int (sal w))) [] 0 0 := by
  refine z_ofW (cc := cX2_smallestAlone) (nL := 1) (ret := (some .int)) (by decide) rfl (Nat.le_of_ble_eq_true rfl) [] rfl (lv0 := [(0, .int w)]) rfl ?_
  intro p e s m args below meth c K
  refine z_iload_n K 0 dX2_smallestAlone_0 rfl ?_
  refine z_iload_n K 0 dX2_smallestAlone_1 rfl ?_
  refine z_ineg K dX2_smallestAlone_2 ?_
  refine z_iand K dX2_smallestAlone_3 ?_
  exact z_iret K dX2_smallestAlone_4 (rfl) [] rfl (by decide) (by decide)

set_option maxRecDepth 100000 in
set_option maxHeartbeats 4000000 in
theorem m_J6_bitCount_0f7a4 (l : Launch) (G : Nat → Prop) (D : va_G) (cI cZ cQ cW : ClassId) (w : Int32)  : z_M l yJ6_bitCount_0f7a4 wsJ6_bitCount_0f7a4 { frames := 0, cells := 0, slots := 0, locals := 0 } G D [(cI, .int), (cZ, .boolean), (cQ, .array .int), (cW, .array .boolean)] [.int w] ([]) (some (.int (pc w))) [] 0 0 := by
  refine z_ofW (cc := cJ6_bitCount_0f7a4) (nL := 1) (ret := (some .int)) (by decide) rfl (Nat.le_of_ble_eq_true rfl) [] rfl (lv0 := [(0, .int w)]) rfl ?_
  intro p e s m args below meth c K
  refine z_iload_n K 0 dJ6_bitCount_0f7a4_0 rfl ?_
  refine z_iload_n K 0 dJ6_bitCount_0f7a4_1 rfl ?_
  refine z_iconst (v := 1) K dJ6_bitCount_0f7a4_2 (by decide) ?_
  refine z_iushr (v := ((w.toUInt32 >>> (Int32.toUInt32 1 &&& Int32.toUInt32 31)).toInt32)) K dJ6_bitCount_0f7a4_3 rfl ?_
  refine z_ldcw (v := 1431655765) K dJ6_bitCount_0f7a4_4 (by decide +kernel) ?_
  refine z_iand K dJ6_bitCount_0f7a4_7 ?_
  refine z_isub K dJ6_bitCount_0f7a4_8 ?_
  refine z_istore_n (lv' := [(0, .int (w - (((w.toUInt32 >>> (Int32.toUInt32 1 &&& Int32.toUInt32 31)).toInt32) &&& 1431655765)))]) K dJ6_bitCount_0f7a4_9 (by decide) rfl ?_
  refine z_iload_n K 0 dJ6_bitCount_0f7a4_10 rfl ?_
  refine z_ldcw (v := 858993459) K dJ6_bitCount_0f7a4_11 (by decide +kernel) ?_
  refine z_iand K dJ6_bitCount_0f7a4_14 ?_
  refine z_iload_n K 0 dJ6_bitCount_0f7a4_15 rfl ?_
  refine z_iconst (v := 2) K dJ6_bitCount_0f7a4_16 (by decide) ?_
  refine z_iushr (v := (((w - (((w.toUInt32 >>> (Int32.toUInt32 1 &&& Int32.toUInt32 31)).toInt32) &&& 1431655765)).toUInt32 >>> (Int32.toUInt32 2 &&& Int32.toUInt32 31)).toInt32)) K dJ6_bitCount_0f7a4_17 rfl ?_
  refine z_ldcw (v := 858993459) K dJ6_bitCount_0f7a4_18 (by decide +kernel) ?_
  refine z_iand K dJ6_bitCount_0f7a4_21 ?_
  refine z_iadd K dJ6_bitCount_0f7a4_22 ?_
  refine z_istore_n (lv' := [(0, .int (((w - (((w.toUInt32 >>> (Int32.toUInt32 1 &&& Int32.toUInt32 31)).toInt32) &&& 1431655765)) &&& 858993459) + ((((w - (((w.toUInt32 >>> (Int32.toUInt32 1 &&& Int32.toUInt32 31)).toInt32) &&& 1431655765)).toUInt32 >>> (Int32.toUInt32 2 &&& Int32.toUInt32 31)).toInt32) &&& 858993459)))]) K dJ6_bitCount_0f7a4_23 (by decide) rfl ?_
  refine z_iload_n K 0 dJ6_bitCount_0f7a4_24 rfl ?_
  refine z_iload_n K 0 dJ6_bitCount_0f7a4_25 rfl ?_
  refine z_iconst (v := 4) K dJ6_bitCount_0f7a4_26 (by decide) ?_
  refine z_iushr (v := (((((w - (((w.toUInt32 >>> (Int32.toUInt32 1 &&& Int32.toUInt32 31)).toInt32) &&& 1431655765)) &&& 858993459) + ((((w - (((w.toUInt32 >>> (Int32.toUInt32 1 &&& Int32.toUInt32 31)).toInt32) &&& 1431655765)).toUInt32 >>> (Int32.toUInt32 2 &&& Int32.toUInt32 31)).toInt32) &&& 858993459)).toUInt32 >>> (Int32.toUInt32 4 &&& Int32.toUInt32 31)).toInt32)) K dJ6_bitCount_0f7a4_27 rfl ?_
  refine z_iadd K dJ6_bitCount_0f7a4_28 ?_
  refine z_ldcw (v := 252645135) K dJ6_bitCount_0f7a4_29 (by decide +kernel) ?_
  refine z_iand K dJ6_bitCount_0f7a4_32 ?_
  refine z_istore_n (lv' := [(0, .int (((((w - (((w.toUInt32 >>> (Int32.toUInt32 1 &&& Int32.toUInt32 31)).toInt32) &&& 1431655765)) &&& 858993459) + ((((w - (((w.toUInt32 >>> (Int32.toUInt32 1 &&& Int32.toUInt32 31)).toInt32) &&& 1431655765)).toUInt32 >>> (Int32.toUInt32 2 &&& Int32.toUInt32 31)).toInt32) &&& 858993459)) + (((((w - (((w.toUInt32 >>> (Int32.toUInt32 1 &&& Int32.toUInt32 31)).toInt32) &&& 1431655765)) &&& 858993459) + ((((w - (((w.toUInt32 >>> (Int32.toUInt32 1 &&& Int32.toUInt32 31)).toInt32) &&& 1431655765)).toUInt32 >>> (Int32.toUInt32 2 &&& Int32.toUInt32 31)).toInt32) &&& 858993459)).toUInt32 >>> (Int32.toUInt32 4 &&& Int32.toUInt32 31)).toInt32)) &&& 252645135))]) K dJ6_bitCount_0f7a4_33 (by decide) rfl ?_
  refine z_iload_n K 0 dJ6_bitCount_0f7a4_34 rfl ?_
  refine z_iload_n K 0 dJ6_bitCount_0f7a4_35 rfl ?_
  refine z_bipush (v := 8) K dJ6_bitCount_0f7a4_36 (by decide) ?_
  refine z_iushr (v := (((((((w - (((w.toUInt32 >>> (Int32.toUInt32 1 &&& Int32.toUInt32 31)).toInt32) &&& 1431655765)) &&& 858993459) + ((((w - (((w.toUInt32 >>> (Int32.toUInt32 1 &&& Int32.toUInt32 31)).toInt32) &&& 1431655765)).toUInt32 >>> (Int32.toUInt32 2 &&& Int32.toUInt32 31)).toInt32) &&& 858993459)) + (((((w - (((w.toUInt32 >>> (Int32.toUInt32 1 &&& Int32.toUInt32 31)).toInt32) &&& 1431655765)) &&& 858993459) + ((((w - (((w.toUInt32 >>> (Int32.toUInt32 1 &&& Int32.toUInt32 31)).toInt32) &&& 1431655765)).toUInt32 >>> (Int32.toUInt32 2 &&& Int32.toUInt32 31)).toInt32) &&& 858993459)).toUInt32 >>> (Int32.toUInt32 4 &&& Int32.toUInt32 31)).toInt32)) &&& 252645135).toUInt32 >>> (Int32.toUInt32 8 &&& Int32.toUInt32 31)).toInt32)) K dJ6_bitCount_0f7a4_38 rfl ?_
  refine z_iadd K dJ6_bitCount_0f7a4_39 ?_
  refine z_istore_n (lv' := [(0, .int ((((((w - (((w.toUInt32 >>> (Int32.toUInt32 1 &&& Int32.toUInt32 31)).toInt32) &&& 1431655765)) &&& 858993459) + ((((w - (((w.toUInt32 >>> (Int32.toUInt32 1 &&& Int32.toUInt32 31)).toInt32) &&& 1431655765)).toUInt32 >>> (Int32.toUInt32 2 &&& Int32.toUInt32 31)).toInt32) &&& 858993459)) + (((((w - (((w.toUInt32 >>> (Int32.toUInt32 1 &&& Int32.toUInt32 31)).toInt32) &&& 1431655765)) &&& 858993459) + ((((w - (((w.toUInt32 >>> (Int32.toUInt32 1 &&& Int32.toUInt32 31)).toInt32) &&& 1431655765)).toUInt32 >>> (Int32.toUInt32 2 &&& Int32.toUInt32 31)).toInt32) &&& 858993459)).toUInt32 >>> (Int32.toUInt32 4 &&& Int32.toUInt32 31)).toInt32)) &&& 252645135) + (((((((w - (((w.toUInt32 >>> (Int32.toUInt32 1 &&& Int32.toUInt32 31)).toInt32) &&& 1431655765)) &&& 858993459) + ((((w - (((w.toUInt32 >>> (Int32.toUInt32 1 &&& Int32.toUInt32 31)).toInt32) &&& 1431655765)).toUInt32 >>> (Int32.toUInt32 2 &&& Int32.toUInt32 31)).toInt32) &&& 858993459)) + (((((w - (((w.toUInt32 >>> (Int32.toUInt32 1 &&& Int32.toUInt32 31)).toInt32) &&& 1431655765)) &&& 858993459) + ((((w - (((w.toUInt32 >>> (Int32.toUInt32 1 &&& Int32.toUInt32 31)).toInt32) &&& 1431655765)).toUInt32 >>> (Int32.toUInt32 2 &&& Int32.toUInt32 31)).toInt32) &&& 858993459)).toUInt32 >>> (Int32.toUInt32 4 &&& Int32.toUInt32 31)).toInt32)) &&& 252645135).toUInt32 >>> (Int32.toUInt32 8 &&& Int32.toUInt32 31)).toInt32)))]) K dJ6_bitCount_0f7a4_40 (by decide) rfl ?_
  refine z_iload_n K 0 dJ6_bitCount_0f7a4_41 rfl ?_
  refine z_iload_n K 0 dJ6_bitCount_0f7a4_42 rfl ?_
  refine z_bipush (v := 16) K dJ6_bitCount_0f7a4_43 (by decide) ?_
  refine z_iushr (v := ((((((((w - (((w.toUInt32 >>> (Int32.toUInt32 1 &&& Int32.toUInt32 31)).toInt32) &&& 1431655765)) &&& 858993459) + ((((w - (((w.toUInt32 >>> (Int32.toUInt32 1 &&& Int32.toUInt32 31)).toInt32) &&& 1431655765)).toUInt32 >>> (Int32.toUInt32 2 &&& Int32.toUInt32 31)).toInt32) &&& 858993459)) + (((((w - (((w.toUInt32 >>> (Int32.toUInt32 1 &&& Int32.toUInt32 31)).toInt32) &&& 1431655765)) &&& 858993459) + ((((w - (((w.toUInt32 >>> (Int32.toUInt32 1 &&& Int32.toUInt32 31)).toInt32) &&& 1431655765)).toUInt32 >>> (Int32.toUInt32 2 &&& Int32.toUInt32 31)).toInt32) &&& 858993459)).toUInt32 >>> (Int32.toUInt32 4 &&& Int32.toUInt32 31)).toInt32)) &&& 252645135) + (((((((w - (((w.toUInt32 >>> (Int32.toUInt32 1 &&& Int32.toUInt32 31)).toInt32) &&& 1431655765)) &&& 858993459) + ((((w - (((w.toUInt32 >>> (Int32.toUInt32 1 &&& Int32.toUInt32 31)).toInt32) &&& 1431655765)).toUInt32 >>> (Int32.toUInt32 2 &&& Int32.toUInt32 31)).toInt32) &&& 858993459)) + (((((w - (((w.toUInt32 >>> (Int32.toUInt32 1 &&& Int32.toUInt32 31)).toInt32) &&& 1431655765)) &&& 858993459) + ((((w - (((w.toUInt32 >>> (Int32.toUInt32 1 &&& Int32.toUInt32 31)).toInt32) &&& 1431655765)).toUInt32 >>> (Int32.toUInt32 2 &&& Int32.toUInt32 31)).toInt32) &&& 858993459)).toUInt32 >>> (Int32.toUInt32 4 &&& Int32.toUInt32 31)).toInt32)) &&& 252645135).toUInt32 >>> (Int32.toUInt32 8 &&& Int32.toUInt32 31)).toInt32)).toUInt32 >>> (Int32.toUInt32 16 &&& Int32.toUInt32 31)).toInt32)) K dJ6_bitCount_0f7a4_45 rfl ?_
  refine z_iadd K dJ6_bitCount_0f7a4_46 ?_
  refine z_istore_n (lv' := [(0, .int (((((((w - (((w.toUInt32 >>> (Int32.toUInt32 1 &&& Int32.toUInt32 31)).toInt32) &&& 1431655765)) &&& 858993459) + ((((w - (((w.toUInt32 >>> (Int32.toUInt32 1 &&& Int32.toUInt32 31)).toInt32) &&& 1431655765)).toUInt32 >>> (Int32.toUInt32 2 &&& Int32.toUInt32 31)).toInt32) &&& 858993459)) + (((((w - (((w.toUInt32 >>> (Int32.toUInt32 1 &&& Int32.toUInt32 31)).toInt32) &&& 1431655765)) &&& 858993459) + ((((w - (((w.toUInt32 >>> (Int32.toUInt32 1 &&& Int32.toUInt32 31)).toInt32) &&& 1431655765)).toUInt32 >>> (Int32.toUInt32 2 &&& Int32.toUInt32 31)).toInt32) &&& 858993459)).toUInt32 >>> (Int32.toUInt32 4 &&& Int32.toUInt32 31)).toInt32)) &&& 252645135) + (((((((w - (((w.toUInt32 >>> (Int32.toUInt32 1 &&& Int32.toUInt32 31)).toInt32) &&& 1431655765)) &&& 858993459) + ((((w - (((w.toUInt32 >>> (Int32.toUInt32 1 &&& Int32.toUInt32 31)).toInt32) &&& 1431655765)).toUInt32 >>> (Int32.toUInt32 2 &&& Int32.toUInt32 31)).toInt32) &&& 858993459)) + (((((w - (((w.toUInt32 >>> (Int32.toUInt32 1 &&& Int32.toUInt32 31)).toInt32) &&& 1431655765)) &&& 858993459) + ((((w - (((w.toUInt32 >>> (Int32.toUInt32 1 &&& Int32.toUInt32 31)).toInt32) &&& 1431655765)).toUInt32 >>> (Int32.toUInt32 2 &&& Int32.toUInt32 31)).toInt32) &&& 858993459)).toUInt32 >>> (Int32.toUInt32 4 &&& Int32.toUInt32 31)).toInt32)) &&& 252645135).toUInt32 >>> (Int32.toUInt32 8 &&& Int32.toUInt32 31)).toInt32)) + ((((((((w - (((w.toUInt32 >>> (Int32.toUInt32 1 &&& Int32.toUInt32 31)).toInt32) &&& 1431655765)) &&& 858993459) + ((((w - (((w.toUInt32 >>> (Int32.toUInt32 1 &&& Int32.toUInt32 31)).toInt32) &&& 1431655765)).toUInt32 >>> (Int32.toUInt32 2 &&& Int32.toUInt32 31)).toInt32) &&& 858993459)) + (((((w - (((w.toUInt32 >>> (Int32.toUInt32 1 &&& Int32.toUInt32 31)).toInt32) &&& 1431655765)) &&& 858993459) + ((((w - (((w.toUInt32 >>> (Int32.toUInt32 1 &&& Int32.toUInt32 31)).toInt32) &&& 1431655765)).toUInt32 >>> (Int32.toUInt32 2 &&& Int32.toUInt32 31)).toInt32) &&& 858993459)).toUInt32 >>> (Int32.toUInt32 4 &&& Int32.toUInt32 31)).toInt32)) &&& 252645135) + (((((((w - (((w.toUInt32 >>> (Int32.toUInt32 1 &&& Int32.toUInt32 31)).toInt32) &&& 1431655765)) &&& 858993459) + ((((w - (((w.toUInt32 >>> (Int32.toUInt32 1 &&& Int32.toUInt32 31)).toInt32) &&& 1431655765)).toUInt32 >>> (Int32.toUInt32 2 &&& Int32.toUInt32 31)).toInt32) &&& 858993459)) + (((((w - (((w.toUInt32 >>> (Int32.toUInt32 1 &&& Int32.toUInt32 31)).toInt32) &&& 1431655765)) &&& 858993459) + ((((w - (((w.toUInt32 >>> (Int32.toUInt32 1 &&& Int32.toUInt32 31)).toInt32) &&& 1431655765)).toUInt32 >>> (Int32.toUInt32 2 &&& Int32.toUInt32 31)).toInt32) &&& 858993459)).toUInt32 >>> (Int32.toUInt32 4 &&& Int32.toUInt32 31)).toInt32)) &&& 252645135).toUInt32 >>> (Int32.toUInt32 8 &&& Int32.toUInt32 31)).toInt32)).toUInt32 >>> (Int32.toUInt32 16 &&& Int32.toUInt32 31)).toInt32)))]) K dJ6_bitCount_0f7a4_47 (by decide) rfl ?_
  refine z_iload_n K 0 dJ6_bitCount_0f7a4_48 rfl ?_
  refine z_bipush (v := 63) K dJ6_bitCount_0f7a4_49 (by decide) ?_
  refine z_iand K dJ6_bitCount_0f7a4_51 ?_
  exact z_iret K dJ6_bitCount_0f7a4_52 (bcI_pc w) [] rfl (by decide) (by decide)

set_option maxRecDepth 100000 in
set_option maxHeartbeats 4000000 in
theorem m_X2_size (l : Launch) (G : Nat → Prop) (D : va_G) (cI cZ cQ cW : ClassId) (w : Int32)  : z_M l yX2_size wsX2_size { frames := 1, cells := 0, slots := 0, locals := 20 } G D [(cI, .int), (cZ, .boolean), (cQ, .array .int), (cW, .array .boolean)] [.int w] ([]) (some (.int (pc w))) [] 0 0 := by
  refine z_ofW (cc := cX2_size) (nL := 1) (ret := (some .int)) (by decide) rfl (Nat.le_of_ble_eq_true rfl) [] rfl (lv0 := [(0, .int w)]) rfl ?_
  intro p e s m args below meth c K
  refine z_iload_n K 0 dX2_size_0 rfl ?_
  refine z_callS (ws' := []) (st' := [.int (pc w)]) (rest := []) K (m_J6_bitCount_0f7a4 l _ D cI cZ cQ cW w ) gX2_size_J6_bitCount_0f7a4 rfl 1 (by decide +kernel) dX2_size_1 [] [] [] rfl rfl rfl ⟨by decide, by decide⟩ ⟨by decide, by decide⟩ rfl rfl rfl rfl (Nat.le_of_ble_eq_true rfl) rfl rfl rfl rfl ?_
  exact z_iret K dX2_size_4 (rfl) [] rfl (by decide) (by decide)

set_option maxRecDepth 100000 in
set_option maxHeartbeats 4000000 in
theorem m_X1_count (l : Launch) (G : Nat → Prop) (D : va_G) (cI cZ cQ cW : ClassId) (aL : Nat) (w : Int32) (aL0 : Nat) (aL1 : Nat) (aL2 : Nat) (aL3 : Nat) (aL4 : Nat) (aL5 : Nat) (hu : Int32) (lt : Nat → Int32)  : z_M l yX1_count wsX1_count { frames := 2, cells := 0, slots := 0, locals := 40 } G D [(cI, .int), (cZ, .boolean), (cQ, .array .int), (cW, .array .boolean)] [.ref aL, .int w] ([(aL, .inr (1, [.ref aL0, .ref aL1, .ref aL2, .ref aL3, .ref aL4, .ref aL5, .int hu])), (aL3, .inl (cI, 6, .inl lt))]) (some (.int (cntS lt w 6))) [] 0 0 := by
  have iX1 : ∀ w ∈ u_ws RX1 TX1 7, w ∈ wsX1_count := fun w h => List.mem_cons_of_mem _ (List.mem_append_right _ h)
  refine z_ofW (cc := cX1_count) (nL := 4) (ret := (some .int)) (by decide) rfl (Nat.le_of_ble_eq_true rfl) [] rfl (lv0 := [(0, .ref aL), (1, .int w)]) rfl ?_
  intro p e s m args below meth c K
  refine z_iconst (v := 0) K dX1_count_0 (by decide) ?_
  refine z_istore_n (lv' := [(2, .int 0), (0, .ref aL), (1, .int w)]) K dX1_count_1 (by decide) rfl ?_
  refine z_iconst (v := 0) K dX1_count_2 (by decide) ?_
  refine z_istore_n (lv' := [(3, .int 0), (2, .int 0), (0, .ref aL), (1, .int w)]) K dX1_count_3 (by decide) rfl ?_
  refine z_loop (wsf := fun k => [(aL, .inr (1, [.ref aL0, .ref aL1, .ref aL2, .ref aL3, .ref aL4, .ref aL5, .int hu])), (aL3, .inl (cI, 6, .inl lt))]) (lvf := fun k => [(3, .int (nI k)), (2, .int (cntS lt w k)), (0, .ref aL), (1, .int w)]) 6 rfl rfl ?_ (fun k hk ihk => ?_)
  · refine z_iload_n K 0 dX1_count_4 rfl ?_
    refine z_bipush (v := 6) K dX1_count_5 (by decide) ?_
    refine z_cmpN K 30 6 6 dX1_count_7 (by decide) rfl rfl (by omega) (by omega) (fun _ => ?_) (fun h => absurd h (by omega))
    refine z_iload_n K 1 dX1_count_30 rfl ?_
    exact z_iret K dX1_count_31 (rfl) [] rfl (by decide) (by decide)
  · refine z_iload_n K 0 dX1_count_4 rfl ?_
    refine z_bipush (v := 6) K dX1_count_5 (by decide) ?_
    refine z_cmpN K 30 k 6 dX1_count_7 (by decide) rfl rfl (by omega) (by omega) (fun h => absurd h (by omega)) (fun _ => ?_)
    refine z_iload_n K 1 dX1_count_10 rfl ?_
    refine z_aload_n K 2 dX1_count_11 rfl ?_
    refine z_get (C := RX1) (T := TX1) (N := 7) (ci := 1) K iX1 rfl 0 rfl 3 (by decide) (by decide +kernel) rfl rfl dX1_count_12 ?_
    refine z_iload_n K 0 dX1_count_15 rfl ?_
    refine z_ialdN K 1 0 k (by omega) (by omega) rfl rfl dX1_count_16 ?_
    refine z_iload_n K 3 dX1_count_17 rfl ?_
    refine z_iand K dX1_count_18 ?_
    refine z_callSN (st' := [.int (pc ((lt k) &&& w)), .int (cntS lt w k)]) (rest := [.int (cntS lt w k)]) K (m_X2_size l _ D cI cZ cQ cW ((lt k) &&& w) ) gX1_count_X2_size_n57 rfl 1 (host := "FableIndex") (by decide) (by decide +kernel) (by decide +kernel) (by decide +kernel) dX1_count_19 rfl rfl ⟨by decide, by decide⟩ ⟨by decide, by decide⟩ rfl rfl (Nat.le_of_ble_eq_true rfl) rfl ?_
    refine z_iadd K dX1_count_22 ?_
    refine z_istore_n (lv' := [(2, .int (cntS lt w k + (pc ((lt k) &&& w)))), (3, .int (nI k)), (0, .ref aL), (1, .int w)]) K dX1_count_23 (by decide) rfl ?_
    refine z_iinc (lv' := [(3, .int (nI (k + 1))), (2, .int (cntS lt w k + (pc ((lt k) &&& w)))), (0, .ref aL), (1, .int w)]) (v := nI (k + 1)) K 1 dX1_count_24 rfl (z_inc1 k) (by decide) rfl ?_
    refine z_goto K 4 dX1_count_27 (by decide) ?_
    rw [show (cntS lt w (k + 1)) = (cntS lt w k + (pc ((lt k) &&& w))) from rfl] at ihk
    exact ihk

set_option maxRecDepth 100000 in
set_option maxHeartbeats 4000000 in
theorem m_X0_all (l : Launch) (G : Nat → Prop) (D : va_G) (cI cZ cQ cW : ClassId) (aB : Nat) (n : Nat) (aB0 : Nat) (aB1 : Nat) (aB2 : Nat) (aB3 : Nat) (aB4 : Nat) (aB5 : Nat)  : z_M l yX0_all wsX0_all { frames := 0, cells := 0, slots := 0, locals := 0 } G D [(cI, .int), (cZ, .boolean), (cQ, .array .int), (cW, .array .boolean)] [.ref aB] ([(aB, .inr (0, [.int (nI n), .ref aB0, .ref aB1, .ref aB2, .ref aB3, .ref aB4, .ref aB5]))]) (some (.int (allS n))) [] 0 0 := by
  have iX0 : ∀ w ∈ u_ws RX0 TX0 7, w ∈ wsX0_all := fun w h => List.mem_cons_of_mem _ (List.mem_append_right _ h)
  refine z_ofW (cc := cX0_all) (nL := 1) (ret := (some .int)) (by decide) rfl (Nat.le_of_ble_eq_true rfl) [] rfl (lv0 := [(0, .ref aB)]) rfl ?_
  intro p e s m args below meth c K
  refine z_iconst (v := 1) K dX0_all_0 (by decide) ?_
  refine z_aload_n K 0 dX0_all_1 rfl ?_
  refine z_get (C := RX0) (T := TX0) (N := 7) (ci := 0) K iX0 rfl 0 rfl 0 (by decide) (by decide +kernel) rfl rfl dX0_all_2 ?_
  refine z_ishl K dX0_all_5 ?_
  refine z_iconst (v := 1) K dX0_all_6 (by decide) ?_
  refine z_isub K dX0_all_7 ?_
  exact z_iret K dX0_all_8 (rfl) [] rfl (by decide) (by decide)

set_option maxRecDepth 100000 in
set_option maxHeartbeats 4000000 in
theorem m_X1_bans (l : Launch) (G : Nat → Prop) (D : va_G) (cI cZ cQ cW : ClassId) (aL : Nat) (aB : Nat) (f : Nat) (v : Nat) (aL0 : Nat) (aL1 : Nat) (aL2 : Nat) (aL3 : Nat) (aL4 : Nat) (aL5 : Nat) (hu : Int32) (lm : Nat → Int32) (lb : Nat → Int32) (n : Nat) (aB0 : Nat) (aB1 : Nat) (aB2 : Nat) (aB3 : Nat) (aB4 : Nat) (aB5 : Nat) (fm : Nat → Int32) (fb : Nat → Int32) (hf : f < 20) (hv : v < 6) : z_M l yX1_bans wsX1_bans { frames := 1, cells := 0, slots := 0, locals := 21 } G D [(cI, .int), (cZ, .boolean), (cQ, .array .int), (cW, .array .boolean)] [.ref aL, .ref aB, .int (nI f), .int (nI v)] ([(aL, .inr (1, [.ref aL0, .ref aL1, .ref aL2, .ref aL3, .ref aL4, .ref aL5, .int hu])), (aL1, .inl (cI, 6, .inl lm)), (aL2, .inl (cI, 6, .inl lb)), (aB, .inr (0, [.int (nI n), .ref aB0, .ref aB1, .ref aB2, .ref aB3, .ref aB4, .ref aB5])), (aB0, .inl (cI, 20, .inl fm)), (aB1, .inl (cI, 20, .inl fb))]) (some (.int (z_b (ban lm lb fm fb f v)))) [] 0 0 := by
  have iX1 : ∀ w ∈ u_ws RX1 TX1 7, w ∈ wsX1_bans := fun w h => List.mem_cons_of_mem _ (List.mem_append_left _ (List.mem_append_right _ h))
  have iX0 : ∀ w ∈ u_ws RX0 TX0 7, w ∈ wsX1_bans := fun w h => List.mem_cons_of_mem _ (List.mem_append_right _ h)
  refine z_ofW (cc := cX1_bans) (nL := 4) (ret := (some .boolean)) (by decide) rfl (Nat.le_of_ble_eq_true rfl) [] rfl (lv0 := [(0, .ref aL), (1, .ref aB), (2, .int (nI f)), (3, .int (nI v))]) rfl ?_
  intro p e s m args below meth c K
  refine z_aload_n K 0 dX1_bans_0 rfl ?_
  refine z_get (C := RX1) (T := TX1) (N := 7) (ci := 1) K iX1 rfl 0 rfl 1 (by decide) (by decide +kernel) rfl rfl dX1_bans_1 ?_
  refine z_iload_n K 3 dX1_bans_4 rfl ?_
  refine z_ialdN K 1 0 v (by omega) (by omega) rfl rfl dX1_bans_5 ?_
  refine z_aload_n K 1 dX1_bans_6 rfl ?_
  refine z_get (C := RX0) (T := TX0) (N := 7) (ci := 0) K iX0 rfl 3 rfl 1 (by decide) (by decide +kernel) rfl rfl dX1_bans_7 ?_
  refine z_iload_n K 2 dX1_bans_10 rfl ?_
  refine z_ialdN K 4 0 f (by omega) (by omega) rfl rfl dX1_bans_11 ?_
  refine z_callSN (st' := [.int (z_b (hs (lm v) (fm f)))]) (rest := []) K (m_X2_has l _ D cI cZ cQ cW (lm v) (fm f) ) gX1_bans_X2_has_n43 rfl 2 (host := "FableIndex") (by decide) (by decide +kernel) (by decide +kernel) (by decide +kernel) dX1_bans_12 rfl rfl ⟨by decide, by decide⟩ ⟨by decide, by decide⟩ rfl rfl (Nat.le_of_ble_eq_true rfl) rfl ?_
  refine z_if_neB K 34 dX1_bans_15 (by decide) (fun c15 => ?_) (fun c15 => ?_)
  · refine z_iconst (v := 1) K dX1_bans_34 (by decide) ?_
    refine z_goto K 39 dX1_bans_35 (by decide) ?_
    exact z_zret K dX1_bans_39 (by simp [z_b, ban, c15]) [] rfl (by decide) (by decide)
  · refine z_aload_n K 0 dX1_bans_18 rfl ?_
    refine z_get (C := RX1) (T := TX1) (N := 7) (ci := 1) K iX1 rfl 0 rfl 2 (by decide) (by decide +kernel) rfl rfl dX1_bans_19 ?_
    refine z_iload_n K 3 dX1_bans_22 rfl ?_
    refine z_ialdN K 2 0 v (by omega) (by omega) rfl rfl dX1_bans_23 ?_
    refine z_aload_n K 1 dX1_bans_24 rfl ?_
    refine z_get (C := RX0) (T := TX0) (N := 7) (ci := 0) K iX0 rfl 3 rfl 2 (by decide) (by decide +kernel) rfl rfl dX1_bans_25 ?_
    refine z_iload_n K 2 dX1_bans_28 rfl ?_
    refine z_ialdN K 5 0 f (by omega) (by omega) rfl rfl dX1_bans_29 ?_
    refine z_iand K dX1_bans_30 ?_
    refine z_if_eq K 38 dX1_bans_31 (by decide) (fun c31 => ?_) (fun c31 => ?_)
    · refine z_iconst (v := 0) K dX1_bans_38 (by decide) ?_
      exact z_zret K dX1_bans_39 (by simp [z_b, ban, c15, c31]) [] rfl (by decide) (by decide)
    · refine z_iconst (v := 1) K dX1_bans_34 (by decide) ?_
      refine z_goto K 39 dX1_bans_35 (by decide) ?_
      exact z_zret K dX1_bans_39 (by simp [z_b, ban, c15, c31]) [] rfl (by decide) (by decide)

set_option maxRecDepth 100000 in
set_option maxHeartbeats 4000000 in
theorem m_X0_withMoral (l : Launch) (G : Nat → Prop) (D : va_G) (cI cZ cQ cW : ClassId) (aB : Nat) (w : Int32) (n : Nat) (aB0 : Nat) (aB1 : Nat) (aB2 : Nat) (aB3 : Nat) (aB4 : Nat) (aB5 : Nat) (fm : Nat → Int32) (hn : n ≤ 20) : z_M l yX0_withMoral wsX0_withMoral { frames := 0, cells := 0, slots := 0, locals := 0 } G D [(cI, .int), (cZ, .boolean), (cQ, .array .int), (cW, .array .boolean)] [.ref aB, .int w] ([(aB, .inr (0, [.int (nI n), .ref aB0, .ref aB1, .ref aB2, .ref aB3, .ref aB4, .ref aB5])), (aB0, .inl (cI, 20, .inl fm))]) (some (.int (wmS fm w n))) [] 0 0 := by
  have iX0 : ∀ w ∈ u_ws RX0 TX0 7, w ∈ wsX0_withMoral := fun w h => List.mem_cons_of_mem _ (List.mem_append_right _ h)
  refine z_ofW (cc := cX0_withMoral) (nL := 4) (ret := (some .int)) (by decide) rfl (Nat.le_of_ble_eq_true rfl) [] rfl (lv0 := [(0, .ref aB), (1, .int w)]) rfl ?_
  intro p e s m args below meth c K
  refine z_iconst (v := 0) K dX0_withMoral_0 (by decide) ?_
  refine z_istore_n (lv' := [(2, .int 0), (0, .ref aB), (1, .int w)]) K dX0_withMoral_1 (by decide) rfl ?_
  refine z_iconst (v := 0) K dX0_withMoral_2 (by decide) ?_
  refine z_istore_n (lv' := [(3, .int 0), (2, .int 0), (0, .ref aB), (1, .int w)]) K dX0_withMoral_3 (by decide) rfl ?_
  refine z_loop (wsf := fun k => [(aB, .inr (0, [.int (nI n), .ref aB0, .ref aB1, .ref aB2, .ref aB3, .ref aB4, .ref aB5])), (aB0, .inl (cI, 20, .inl fm))]) (lvf := fun k => [(3, .int (nI k)), (2, .int (wmS fm w k)), (0, .ref aB), (1, .int w)]) n rfl rfl ?_ (fun k hk ihk => ?_)
  · refine z_iload_n K 0 dX0_withMoral_4 rfl ?_
    refine z_aload_n K 2 dX0_withMoral_5 rfl ?_
    refine z_get (C := RX0) (T := TX0) (N := 7) (ci := 0) K iX0 rfl 0 rfl 0 (by decide) (by decide +kernel) rfl rfl dX0_withMoral_6 ?_
    refine z_cmpN K 34 n n dX0_withMoral_9 (by decide) rfl rfl (by omega) (by omega) (fun _ => ?_) (fun h => absurd h (by omega))
    refine z_iload_n K 1 dX0_withMoral_34 rfl ?_
    exact z_iret K dX0_withMoral_35 ((by first | (simp only [wmS, z_fold, Bool.false_eq_true, if_false, if_true, ↓reduceIte]; done) | rfl | simp [wmS, z_fold])) [] rfl (by decide) (by decide)
  · refine z_iload_n K 0 dX0_withMoral_4 rfl ?_
    refine z_aload_n K 2 dX0_withMoral_5 rfl ?_
    refine z_get (C := RX0) (T := TX0) (N := 7) (ci := 0) K iX0 rfl 0 rfl 0 (by decide) (by decide +kernel) rfl rfl dX0_withMoral_6 ?_
    refine z_cmpN K 34 k n dX0_withMoral_9 (by decide) rfl rfl (by omega) (by omega) (fun h => absurd h (by omega)) (fun _ => ?_)
    refine z_aload_n K 2 dX0_withMoral_12 rfl ?_
    refine z_get (C := RX0) (T := TX0) (N := 7) (ci := 0) K iX0 rfl 0 rfl 1 (by decide) (by decide +kernel) rfl rfl dX0_withMoral_13 ?_
    refine z_iload_n K 0 dX0_withMoral_16 rfl ?_
    refine z_ialdN K 1 0 k (by omega) (by omega) rfl rfl dX0_withMoral_17 ?_
    refine z_iload_n K 3 dX0_withMoral_18 rfl ?_
    refine z_icmp_ne K 28 dX0_withMoral_19 (by decide) (fun c19 => ?_) (fun c19 => ?_)
    · refine z_iinc (lv' := [(3, .int (nI (k + 1))), (2, .int (wmS fm w k)), (0, .ref aB), (1, .int w)]) (v := nI (k + 1)) K 0 dX0_withMoral_28 rfl (z_inc1 k) (by decide) rfl ?_
      refine z_goto K 4 dX0_withMoral_31 (by decide) ?_
      rw [show (wmS fm w (k + 1)) = (wmS fm w k) from (by first | (simp only [wmS, z_fold, c19, Bool.false_eq_true, if_false, if_true, ↓reduceIte]; done) | rfl | simp [wmS, z_fold, c19])] at ihk
      exact ihk
    · refine z_iload_n K 1 dX0_withMoral_22 rfl ?_
      refine z_iconst (v := 1) K dX0_withMoral_23 (by decide) ?_
      refine z_iload_n K 0 dX0_withMoral_24 rfl ?_
      refine z_ishl K dX0_withMoral_25 ?_
      refine z_ior K dX0_withMoral_26 ?_
      refine z_istore_n (lv' := [(2, .int (wmS fm w k ||| ((1 : Int32) <<< ((nI k) &&& 31)))), (3, .int (nI k)), (0, .ref aB), (1, .int w)]) K dX0_withMoral_27 (by decide) rfl ?_
      refine z_iinc (lv' := [(3, .int (nI (k + 1))), (2, .int (wmS fm w k ||| ((1 : Int32) <<< ((nI k) &&& 31)))), (0, .ref aB), (1, .int w)]) (v := nI (k + 1)) K 1 dX0_withMoral_28 rfl (z_inc1 k) (by decide) rfl ?_
      refine z_goto K 4 dX0_withMoral_31 (by decide) ?_
      rw [show (wmS fm w (k + 1)) = (wmS fm w k ||| ((1 : Int32) <<< ((nI k) &&& 31))) from (by first | (simp only [wmS, z_fold, c19, Bool.false_eq_true, if_false, if_true, ↓reduceIte]; done) | rfl | simp [wmS, z_fold, c19])] at ihk
      exact ihk

set_option maxRecDepth 100000 in
set_option maxHeartbeats 4000000 in
theorem m_X0_withBeast (l : Launch) (G : Nat → Prop) (D : va_G) (cI cZ cQ cW : ClassId) (aB : Nat) (w : Int32) (n : Nat) (aB0 : Nat) (aB1 : Nat) (aB2 : Nat) (aB3 : Nat) (aB4 : Nat) (aB5 : Nat) (fb : Nat → Int32) (hn : n ≤ 20) : z_M l yX0_withBeast wsX0_withBeast { frames := 1, cells := 0, slots := 0, locals := 21 } G D [(cI, .int), (cZ, .boolean), (cQ, .array .int), (cW, .array .boolean)] [.ref aB, .int w] ([(aB, .inr (0, [.int (nI n), .ref aB0, .ref aB1, .ref aB2, .ref aB3, .ref aB4, .ref aB5])), (aB1, .inl (cI, 20, .inl fb))]) (some (.int (wbS fb w n))) [] 0 0 := by
  have iX0 : ∀ w ∈ u_ws RX0 TX0 7, w ∈ wsX0_withBeast := fun w h => List.mem_cons_of_mem _ (List.mem_append_right _ h)
  refine z_ofW (cc := cX0_withBeast) (nL := 4) (ret := (some .int)) (by decide) rfl (Nat.le_of_ble_eq_true rfl) [] rfl (lv0 := [(0, .ref aB), (1, .int w)]) rfl ?_
  intro p e s m args below meth c K
  refine z_iconst (v := 0) K dX0_withBeast_0 (by decide) ?_
  refine z_istore_n (lv' := [(2, .int 0), (0, .ref aB), (1, .int w)]) K dX0_withBeast_1 (by decide) rfl ?_
  refine z_iconst (v := 0) K dX0_withBeast_2 (by decide) ?_
  refine z_istore_n (lv' := [(3, .int 0), (2, .int 0), (0, .ref aB), (1, .int w)]) K dX0_withBeast_3 (by decide) rfl ?_
  refine z_loop (wsf := fun k => [(aB, .inr (0, [.int (nI n), .ref aB0, .ref aB1, .ref aB2, .ref aB3, .ref aB4, .ref aB5])), (aB1, .inl (cI, 20, .inl fb))]) (lvf := fun k => [(3, .int (nI k)), (2, .int (wbS fb w k)), (0, .ref aB), (1, .int w)]) n rfl rfl ?_ (fun k hk ihk => ?_)
  · refine z_iload_n K 0 dX0_withBeast_4 rfl ?_
    refine z_aload_n K 2 dX0_withBeast_5 rfl ?_
    refine z_get (C := RX0) (T := TX0) (N := 7) (ci := 0) K iX0 rfl 0 rfl 0 (by decide) (by decide +kernel) rfl rfl dX0_withBeast_6 ?_
    refine z_cmpN K 37 n n dX0_withBeast_9 (by decide) rfl rfl (by omega) (by omega) (fun _ => ?_) (fun h => absurd h (by omega))
    refine z_iload_n K 1 dX0_withBeast_37 rfl ?_
    exact z_iret K dX0_withBeast_38 ((by first | (simp only [wbS, z_fold, Bool.false_eq_true, if_false, if_true, ↓reduceIte]; done) | rfl | simp [wbS, z_fold])) [] rfl (by decide) (by decide)
  · refine z_iload_n K 0 dX0_withBeast_4 rfl ?_
    refine z_aload_n K 2 dX0_withBeast_5 rfl ?_
    refine z_get (C := RX0) (T := TX0) (N := 7) (ci := 0) K iX0 rfl 0 rfl 0 (by decide) (by decide +kernel) rfl rfl dX0_withBeast_6 ?_
    refine z_cmpN K 37 k n dX0_withBeast_9 (by decide) rfl rfl (by omega) (by omega) (fun h => absurd h (by omega)) (fun _ => ?_)
    refine z_aload_n K 2 dX0_withBeast_12 rfl ?_
    refine z_get (C := RX0) (T := TX0) (N := 7) (ci := 0) K iX0 rfl 0 rfl 2 (by decide) (by decide +kernel) rfl rfl dX0_withBeast_13 ?_
    refine z_iload_n K 0 dX0_withBeast_16 rfl ?_
    refine z_ialdN K 1 0 k (by omega) (by omega) rfl rfl dX0_withBeast_17 ?_
    refine z_iload_n K 3 dX0_withBeast_18 rfl ?_
    refine z_callSN (st' := [.int (z_b (hs (fb k) w))]) (rest := []) K (m_X2_has l _ D cI cZ cQ cW (fb k) w ) gX0_withBeast_X2_has_n34 rfl 2 (host := "FableIndex") (by decide) (by decide +kernel) (by decide +kernel) (by decide +kernel) dX0_withBeast_19 rfl rfl ⟨by decide, by decide⟩ ⟨by decide, by decide⟩ rfl rfl (Nat.le_of_ble_eq_true rfl) rfl ?_
    refine z_if_eqB K 31 dX0_withBeast_22 (by decide) (fun c22 => ?_) (fun c22 => ?_)
    · refine z_iinc (lv' := [(3, .int (nI (k + 1))), (2, .int (wbS fb w k)), (0, .ref aB), (1, .int w)]) (v := nI (k + 1)) K 0 dX0_withBeast_31 rfl (z_inc1 k) (by decide) rfl ?_
      refine z_goto K 4 dX0_withBeast_34 (by decide) ?_
      rw [show (wbS fb w (k + 1)) = (wbS fb w k) from (by first | (simp only [wbS, z_fold, c22, Bool.false_eq_true, if_false, if_true, ↓reduceIte]; done) | rfl | simp [wbS, z_fold, c22])] at ihk
      exact ihk
    · refine z_iload_n K 1 dX0_withBeast_25 rfl ?_
      refine z_iconst (v := 1) K dX0_withBeast_26 (by decide) ?_
      refine z_iload_n K 0 dX0_withBeast_27 rfl ?_
      refine z_ishl K dX0_withBeast_28 ?_
      refine z_ior K dX0_withBeast_29 ?_
      refine z_istore_n (lv' := [(2, .int (wbS fb w k ||| ((1 : Int32) <<< ((nI k) &&& 31)))), (3, .int (nI k)), (0, .ref aB), (1, .int w)]) K dX0_withBeast_30 (by decide) rfl ?_
      refine z_iinc (lv' := [(3, .int (nI (k + 1))), (2, .int (wbS fb w k ||| ((1 : Int32) <<< ((nI k) &&& 31)))), (0, .ref aB), (1, .int w)]) (v := nI (k + 1)) K 1 dX0_withBeast_31 rfl (z_inc1 k) (by decide) rfl ?_
      refine z_goto K 4 dX0_withBeast_34 (by decide) ?_
      rw [show (wbS fb w (k + 1)) = (wbS fb w k ||| ((1 : Int32) <<< ((nI k) &&& 31))) from (by first | (simp only [wbS, z_fold, c22, Bool.false_eq_true, if_false, if_true, ↓reduceIte]; done) | rfl | simp [wbS, z_fold, c22])] at ihk
      exact ihk

set_option maxRecDepth 100000 in
set_option maxHeartbeats 4000000 in
theorem m_X0_write (l : Launch) (G : Nat → Prop) (D : va_G) (cI cZ cQ cW : ClassId) (aB : Nat) (w : Int32) (x : Int32) (y : Int32) (pw : Int32) (n : Nat) (aB0 : Nat) (aB1 : Nat) (aB2 : Nat) (aB3 : Nat) (aB4 : Nat) (aB5 : Nat) (fm : Nat → Int32) (fb : Nat → Int32) (fh : Nat → Int32) (fp : Nat → Int32) (fv : Nat → Int32) (fa : Nat → Int32) (hn : n < 20) (hp : pw = -1 ∨ ∃ j : Nat, j < n ∧ pw = nI j) : z_M l yX0_write wsX0_write { frames := 0, cells := 0, slots := 0, locals := 0 } G D [(cI, .int), (cZ, .boolean), (cQ, .array .int), (cW, .array .boolean)] [.ref aB, .int w, .int x, .int y, .int pw] ([(aB, .inr (0, [.int (nI n), .ref aB0, .ref aB1, .ref aB2, .ref aB3, .ref aB4, .ref aB5])), (aB0, .inl (cI, 20, .inl fm)), (aB1, .inl (cI, 20, .inl fb)), (aB2, .inl (cI, 20, .inl fh)), (aB3, .inl (cI, 20, .inl fp)), (aB4, .inl (cI, 20, .inl fv)), (aB5, .inl (cI, 20, .inl fa))]) (some (.int (nI n))) [(aB, .inr (0, [.int (nI (n + 1)), .ref aB0, .ref aB1, .ref aB2, .ref aB3, .ref aB4, .ref aB5])), (aB0, .inl (cI, 20, .inl (upd fm n w))), (aB1, .inl (cI, 20, .inl (upd fb n x))), (aB2, .inl (cI, 20, .inl (upd fh n y))), (aB3, .inl (cI, 20, .inl (upd fp n pw))), (aB4, .inl (cI, 20, .inl (wrV fv n pw))), (aB5, .inl (cI, 20, .inl (wrA fa n pw)))] 0 0 := by
  have iX0 : ∀ w ∈ u_ws RX0 TX0 7, w ∈ wsX0_write := fun w h => List.mem_cons_of_mem _ (List.mem_append_right _ h)
  refine z_ofW (cc := cX0_write) (nL := 6) (ret := (some .int)) (by decide) rfl (Nat.le_of_ble_eq_true rfl) [0, 1, 2, 3, 4, 5, 6] rfl (lv0 := [(0, .ref aB), (1, .int w), (2, .int x), (3, .int y), (4, .int pw)]) rfl ?_
  intro p e s m args below meth c K
  refine z_aload_n K 0 dX0_write_0 rfl ?_
  refine z_get (C := RX0) (T := TX0) (N := 7) (ci := 0) K iX0 rfl 0 rfl 0 (by decide) (by decide +kernel) rfl rfl dX0_write_1 ?_
  refine z_istore (lv' := [(5, .int (nI n)), (0, .ref aB), (1, .int w), (2, .int x), (3, .int y), (4, .int pw)]) K dX0_write_4 (by decide) rfl ?_
  refine z_aload_n K 1 dX0_write_6 rfl ?_
  refine z_get (C := RX0) (T := TX0) (N := 7) (ci := 0) K iX0 rfl 0 rfl 1 (by decide) (by decide +kernel) rfl rfl dX0_write_7 ?_
  refine z_iload K 0 dX0_write_10 rfl ?_
  refine z_iload_n K 2 dX0_write_12 rfl ?_
  refine z_iastN K 1 0 n (by omega) (by omega) rfl rfl dX0_write_13 (z_memA 1 rfl) (ws' := [(aB, .inr (0, [.int (nI n), .ref aB0, .ref aB1, .ref aB2, .ref aB3, .ref aB4, .ref aB5])), (aB0, .inl (cI, 20, .inl (upd fm n w))), (aB1, .inl (cI, 20, .inl fb)), (aB2, .inl (cI, 20, .inl fh)), (aB3, .inl (cI, 20, .inl fp)), (aB4, .inl (cI, 20, .inl fv)), (aB5, .inl (cI, 20, .inl fa))]) rfl ?_
  refine z_aload_n K 1 dX0_write_14 rfl ?_
  refine z_get (C := RX0) (T := TX0) (N := 7) (ci := 0) K iX0 rfl 0 rfl 2 (by decide) (by decide +kernel) rfl rfl dX0_write_15 ?_
  refine z_iload K 0 dX0_write_18 rfl ?_
  refine z_iload_n K 3 dX0_write_20 rfl ?_
  refine z_iastN K 2 0 n (by omega) (by omega) rfl rfl dX0_write_21 (z_memA 2 rfl) (ws' := [(aB, .inr (0, [.int (nI n), .ref aB0, .ref aB1, .ref aB2, .ref aB3, .ref aB4, .ref aB5])), (aB0, .inl (cI, 20, .inl (upd fm n w))), (aB1, .inl (cI, 20, .inl (upd fb n x))), (aB2, .inl (cI, 20, .inl fh)), (aB3, .inl (cI, 20, .inl fp)), (aB4, .inl (cI, 20, .inl fv)), (aB5, .inl (cI, 20, .inl fa))]) rfl ?_
  refine z_aload_n K 1 dX0_write_22 rfl ?_
  refine z_get (C := RX0) (T := TX0) (N := 7) (ci := 0) K iX0 rfl 0 rfl 3 (by decide) (by decide +kernel) rfl rfl dX0_write_23 ?_
  refine z_iload K 0 dX0_write_26 rfl ?_
  refine z_iload_n K 4 dX0_write_28 rfl ?_
  refine z_iastN K 3 0 n (by omega) (by omega) rfl rfl dX0_write_29 (z_memA 3 rfl) (ws' := [(aB, .inr (0, [.int (nI n), .ref aB0, .ref aB1, .ref aB2, .ref aB3, .ref aB4, .ref aB5])), (aB0, .inl (cI, 20, .inl (upd fm n w))), (aB1, .inl (cI, 20, .inl (upd fb n x))), (aB2, .inl (cI, 20, .inl (upd fh n y))), (aB3, .inl (cI, 20, .inl fp)), (aB4, .inl (cI, 20, .inl fv)), (aB5, .inl (cI, 20, .inl fa))]) rfl ?_
  refine z_aload_n K 1 dX0_write_30 rfl ?_
  refine z_get (C := RX0) (T := TX0) (N := 7) (ci := 0) K iX0 rfl 0 rfl 4 (by decide) (by decide +kernel) rfl rfl dX0_write_31 ?_
  refine z_iload K 0 dX0_write_34 rfl ?_
  refine z_iload K 5 dX0_write_36 rfl ?_
  refine z_iastN K 4 0 n (by omega) (by omega) rfl rfl dX0_write_38 (z_memA 4 rfl) (ws' := [(aB, .inr (0, [.int (nI n), .ref aB0, .ref aB1, .ref aB2, .ref aB3, .ref aB4, .ref aB5])), (aB0, .inl (cI, 20, .inl (upd fm n w))), (aB1, .inl (cI, 20, .inl (upd fb n x))), (aB2, .inl (cI, 20, .inl (upd fh n y))), (aB3, .inl (cI, 20, .inl (upd fp n pw))), (aB4, .inl (cI, 20, .inl fv)), (aB5, .inl (cI, 20, .inl fa))]) rfl ?_
  refine z_aload_n K 1 dX0_write_39 rfl ?_
  refine z_get (C := RX0) (T := TX0) (N := 7) (ci := 0) K iX0 rfl 0 rfl 5 (by decide) (by decide +kernel) rfl rfl dX0_write_40 ?_
  refine z_iload K 0 dX0_write_43 rfl ?_
  refine z_iconst (v := 0) K dX0_write_45 (by decide) ?_
  refine z_iastN K 5 0 n (by omega) (by omega) rfl rfl dX0_write_46 (z_memA 5 rfl) (ws' := [(aB, .inr (0, [.int (nI n), .ref aB0, .ref aB1, .ref aB2, .ref aB3, .ref aB4, .ref aB5])), (aB0, .inl (cI, 20, .inl (upd fm n w))), (aB1, .inl (cI, 20, .inl (upd fb n x))), (aB2, .inl (cI, 20, .inl (upd fh n y))), (aB3, .inl (cI, 20, .inl (upd fp n pw))), (aB4, .inl (cI, 20, .inl (upd fv n 0))), (aB5, .inl (cI, 20, .inl fa))]) rfl ?_
  refine z_aload_n K 1 dX0_write_47 rfl ?_
  refine z_get (C := RX0) (T := TX0) (N := 7) (ci := 0) K iX0 rfl 0 rfl 6 (by decide) (by decide +kernel) rfl rfl dX0_write_48 ?_
  refine z_iload K 0 dX0_write_51 rfl ?_
  refine z_iconst (v := 1) K dX0_write_53 (by decide) ?_
  refine z_iload K 0 dX0_write_54 rfl ?_
  refine z_ishl K dX0_write_56 ?_
  refine z_iastN K 6 0 n (by omega) (by omega) rfl rfl dX0_write_57 (z_memA 6 rfl) (ws' := [(aB, .inr (0, [.int (nI n), .ref aB0, .ref aB1, .ref aB2, .ref aB3, .ref aB4, .ref aB5])), (aB0, .inl (cI, 20, .inl (upd fm n w))), (aB1, .inl (cI, 20, .inl (upd fb n x))), (aB2, .inl (cI, 20, .inl (upd fh n y))), (aB3, .inl (cI, 20, .inl (upd fp n pw))), (aB4, .inl (cI, 20, .inl (upd fv n 0))), (aB5, .inl (cI, 20, .inl (upd fa n ((1 : Int32) <<< (nI n &&& 31)))))]) rfl ?_
  refine z_iload K 5 dX0_write_58 rfl ?_
  refine z_if_lt K 94 dX0_write_60 (by decide) (fun c60 => ?_) (fun c60 => ?_)
  · refine z_aload_n K 1 dX0_write_94 rfl ?_
    refine z_dup K dX0_write_95 rfl ?_
    refine z_get (C := RX0) (T := TX0) (N := 7) (ci := 0) K iX0 rfl 0 rfl 0 (by decide) (by decide +kernel) rfl rfl dX0_write_96 ?_
    refine z_iconst (v := 1) K dX0_write_99 (by decide) ?_
    refine z_iadd K dX0_write_100 ?_
    refine z_put (C := RX0) (T := TX0) (N := 7) (ci := 0) K iX0 rfl tyX0 tyX0_ok nmX0 0 rfl 0 (by decide) (by decide +kernel) rfl rfl rfl rfl (Nat.le_of_ble_eq_true rfl) (z_memA 0 rfl) (ws' := [(aB, .inr (0, [.int (nI n + 1), .ref aB0, .ref aB1, .ref aB2, .ref aB3, .ref aB4, .ref aB5])), (aB0, .inl (cI, 20, .inl (upd fm n w))), (aB1, .inl (cI, 20, .inl (upd fb n x))), (aB2, .inl (cI, 20, .inl (upd fh n y))), (aB3, .inl (cI, 20, .inl (upd fp n pw))), (aB4, .inl (cI, 20, .inl (upd fv n 0))), (aB5, .inl (cI, 20, .inl (upd fa n ((1 : Int32) <<< (nI n &&& 31)))))]) rfl dX0_write_101 ?_
    refine z_iload K 0 dX0_write_104 rfl ?_
    rw [show (upd fa n ((1 : Int32) <<< (nI n &&& 31))) = (wrA fa n pw) from (by first | exact nI_1 n | (simp only [wrV, wrA, if_pos c60]; done))]
    rw [show (upd fv n 0) = (wrV fv n pw) from (by first | exact nI_1 n | (simp only [wrV, wrA, if_pos c60]; done))]
    rw [show (nI n + 1) = (nI (n + 1)) from (by first | exact nI_1 n | (simp only [wrV, wrA, if_pos c60]; done))]
    rw [show (nI n) = (nI n) from (by first | exact nI_1 n | (simp only [wrV, wrA, if_pos c60]; done))]
    exact z_iret K dX0_write_106 (rfl) [0, 1, 2, 3, 4, 5, 6] rfl (by decide) (by decide)
  · obtain ⟨j, hj, rfl⟩ : ∃ j : Nat, j < n ∧ pw = nI j := hp.resolve_left (fun h => c60 (by rw [h]; decide))
    refine z_aload_n K 1 dX0_write_63 rfl ?_
    refine z_get (C := RX0) (T := TX0) (N := 7) (ci := 0) K iX0 rfl 0 rfl 5 (by decide) (by decide +kernel) rfl rfl dX0_write_64 ?_
    refine z_iload K 5 dX0_write_67 rfl ?_
    refine z_dup2 K dX0_write_69 rfl rfl ?_
    refine z_ialdN K 5 0 j (by omega) (by omega) rfl rfl dX0_write_70 ?_
    refine z_iconst (v := 1) K dX0_write_71 (by decide) ?_
    refine z_iload K 0 dX0_write_72 rfl ?_
    refine z_ishl K dX0_write_74 ?_
    refine z_ior K dX0_write_75 ?_
    refine z_iastN K 5 0 j (by omega) (by omega) rfl rfl dX0_write_76 (z_memA 5 rfl) (ws' := [(aB, .inr (0, [.int (nI n), .ref aB0, .ref aB1, .ref aB2, .ref aB3, .ref aB4, .ref aB5])), (aB0, .inl (cI, 20, .inl (upd fm n w))), (aB1, .inl (cI, 20, .inl (upd fb n x))), (aB2, .inl (cI, 20, .inl (upd fh n y))), (aB3, .inl (cI, 20, .inl (upd fp n (nI j)))), (aB4, .inl (cI, 20, .inl (upd (upd fv n 0) j (((upd fv n 0) j) ||| ((1 : Int32) <<< (nI n &&& 31)))))), (aB5, .inl (cI, 20, .inl (upd fa n ((1 : Int32) <<< (nI n &&& 31)))))]) rfl ?_
    refine z_aload_n K 1 dX0_write_77 rfl ?_
    refine z_get (C := RX0) (T := TX0) (N := 7) (ci := 0) K iX0 rfl 0 rfl 6 (by decide) (by decide +kernel) rfl rfl dX0_write_78 ?_
    refine z_iload K 0 dX0_write_81 rfl ?_
    refine z_dup2 K dX0_write_83 rfl rfl ?_
    refine z_ialdN K 6 0 n (by omega) (by omega) rfl rfl dX0_write_84 ?_
    refine z_aload_n K 1 dX0_write_85 rfl ?_
    refine z_get (C := RX0) (T := TX0) (N := 7) (ci := 0) K iX0 rfl 0 rfl 6 (by decide) (by decide +kernel) rfl rfl dX0_write_86 ?_
    refine z_iload K 5 dX0_write_89 rfl ?_
    refine z_ialdN K 6 0 j (by omega) (by omega) rfl rfl dX0_write_91 ?_
    refine z_ior K dX0_write_92 ?_
    refine z_iastN K 6 0 n (by omega) (by omega) rfl rfl dX0_write_93 (z_memA 6 rfl) (ws' := [(aB, .inr (0, [.int (nI n), .ref aB0, .ref aB1, .ref aB2, .ref aB3, .ref aB4, .ref aB5])), (aB0, .inl (cI, 20, .inl (upd fm n w))), (aB1, .inl (cI, 20, .inl (upd fb n x))), (aB2, .inl (cI, 20, .inl (upd fh n y))), (aB3, .inl (cI, 20, .inl (upd fp n (nI j)))), (aB4, .inl (cI, 20, .inl (upd (upd fv n 0) j (((upd fv n 0) j) ||| ((1 : Int32) <<< (nI n &&& 31)))))), (aB5, .inl (cI, 20, .inl (upd (upd fa n ((1 : Int32) <<< (nI n &&& 31))) n (((upd fa n ((1 : Int32) <<< (nI n &&& 31))) n) ||| ((upd fa n ((1 : Int32) <<< (nI n &&& 31))) j)))))]) rfl ?_
    refine z_aload_n K 1 dX0_write_94 rfl ?_
    refine z_dup K dX0_write_95 rfl ?_
    refine z_get (C := RX0) (T := TX0) (N := 7) (ci := 0) K iX0 rfl 0 rfl 0 (by decide) (by decide +kernel) rfl rfl dX0_write_96 ?_
    refine z_iconst (v := 1) K dX0_write_99 (by decide) ?_
    refine z_iadd K dX0_write_100 ?_
    refine z_put (C := RX0) (T := TX0) (N := 7) (ci := 0) K iX0 rfl tyX0 tyX0_ok nmX0 0 rfl 0 (by decide) (by decide +kernel) rfl rfl rfl rfl (Nat.le_of_ble_eq_true rfl) (z_memA 0 rfl) (ws' := [(aB, .inr (0, [.int (nI n + 1), .ref aB0, .ref aB1, .ref aB2, .ref aB3, .ref aB4, .ref aB5])), (aB0, .inl (cI, 20, .inl (upd fm n w))), (aB1, .inl (cI, 20, .inl (upd fb n x))), (aB2, .inl (cI, 20, .inl (upd fh n y))), (aB3, .inl (cI, 20, .inl (upd fp n (nI j)))), (aB4, .inl (cI, 20, .inl (upd (upd fv n 0) j (((upd fv n 0) j) ||| ((1 : Int32) <<< (nI n &&& 31)))))), (aB5, .inl (cI, 20, .inl (upd (upd fa n ((1 : Int32) <<< (nI n &&& 31))) n (((upd fa n ((1 : Int32) <<< (nI n &&& 31))) n) ||| ((upd fa n ((1 : Int32) <<< (nI n &&& 31))) j)))))]) rfl dX0_write_101 ?_
    refine z_iload K 0 dX0_write_104 rfl ?_
    rw [show (upd (upd fa n ((1 : Int32) <<< (nI n &&& 31))) n (((upd fa n ((1 : Int32) <<< (nI n &&& 31))) n) ||| ((upd fa n ((1 : Int32) <<< (nI n &&& 31))) j))) = (wrA fa n (nI j)) from (by first | exact nI_1 n | (simp only [wrV, wrA, if_neg c60, nI_clamp (show j < 2 ^ 31 by omega)]; done))]
    rw [show (upd (upd fv n 0) j (((upd fv n 0) j) ||| ((1 : Int32) <<< (nI n &&& 31)))) = (wrV fv n (nI j)) from (by first | exact nI_1 n | (simp only [wrV, wrA, if_neg c60, nI_clamp (show j < 2 ^ 31 by omega)]; done))]
    rw [show (nI n + 1) = (nI (n + 1)) from (by first | exact nI_1 n | (simp only [wrV, wrA, if_neg c60, nI_clamp (show j < 2 ^ 31 by omega)]; done))]
    rw [show (nI n) = (nI n) from (by first | exact nI_1 n | (simp only [wrV, wrA, if_neg c60, nI_clamp (show j < 2 ^ 31 by omega)]; done))]
    exact z_iret K dX0_write_106 (rfl) [0, 1, 2, 3, 4, 5, 6] rfl (by decide) (by decide)

set_option maxRecDepth 100000 in
set_option maxHeartbeats 4000000 in
theorem m_X1_turnWay (l : Launch) (G : Nat → Prop) (D : va_G) (cI cZ cQ cW : ClassId) (aL : Nat) (i : Nat) (j : Nat) (aL0 : Nat) (aL1 : Nat) (aL2 : Nat) (aL3 : Nat) (aL4 : Nat) (aL5 : Nat) (hu : Int32) (lw : Nat → Int32) (hi : i < 6) (hj : j < 6) : z_M l yX1_turnWay wsX1_turnWay { frames := 1, cells := 0, slots := 0, locals := 21 } G D [(cI, .int), (cZ, .boolean), (cQ, .array .int), (cW, .array .boolean)] [.ref aL, .int (nI i), .int (nI j)] ([(aL, .inr (1, [.ref aL0, .ref aL1, .ref aL2, .ref aL3, .ref aL4, .ref aL5, .int hu])), (aL0, .inl (cI, 6, .inl lw))]) none [(aL0, .inl (cI, 6, .inl (turnW lw i j)))] 0 0 := by
  have iX1 : ∀ w ∈ u_ws RX1 TX1 7, w ∈ wsX1_turnWay := fun w h => List.mem_cons_of_mem _ (List.mem_append_right _ h)
  refine z_ofW (cc := cX1_turnWay) (nL := 3) (ret := none) (by decide) rfl (Nat.le_of_ble_eq_true rfl) [1] rfl (lv0 := [(0, .ref aL), (1, .int (nI i)), (2, .int (nI j))]) rfl ?_
  intro p e s m args below meth c K
  refine z_aload_n K 0 dX1_turnWay_0 rfl ?_
  refine z_get (C := RX1) (T := TX1) (N := 7) (ci := 1) K iX1 rfl 0 rfl 0 (by decide) (by decide +kernel) rfl rfl dX1_turnWay_1 ?_
  refine z_iload_n K 1 dX1_turnWay_4 rfl ?_
  refine z_aload_n K 0 dX1_turnWay_5 rfl ?_
  refine z_get (C := RX1) (T := TX1) (N := 7) (ci := 1) K iX1 rfl 0 rfl 0 (by decide) (by decide +kernel) rfl rfl dX1_turnWay_6 ?_
  refine z_iload_n K 1 dX1_turnWay_9 rfl ?_
  refine z_ialdN K 1 0 i (by omega) (by omega) rfl rfl dX1_turnWay_10 ?_
  refine z_iload_n K 2 dX1_turnWay_11 rfl ?_
  refine z_callSN (st' := [.int (tu (lw i) (nI j)), .int (nI i), .ref aL0]) (rest := [.int (nI i), .ref aL0]) K (m_X2_turned l _ D cI cZ cQ cW (lw i) (nI j) ) gX1_turnWay_X2_turned_n34 rfl 2 (host := "FableIndex") (by decide) (by decide +kernel) (by decide +kernel) (by decide +kernel) dX1_turnWay_12 rfl rfl ⟨by decide, by decide⟩ ⟨by decide, by decide⟩ rfl rfl (Nat.le_of_ble_eq_true rfl) rfl ?_
  refine z_iastN K 1 0 i (by omega) (by omega) rfl rfl dX1_turnWay_15 (z_memA 0 rfl) (ws' := [(aL, .inr (1, [.ref aL0, .ref aL1, .ref aL2, .ref aL3, .ref aL4, .ref aL5, .int hu])), (aL0, .inl (cI, 6, .inl (upd lw i (tu (lw i) (nI j)))))]) rfl ?_
  refine z_aload_n K 0 dX1_turnWay_16 rfl ?_
  refine z_get (C := RX1) (T := TX1) (N := 7) (ci := 1) K iX1 rfl 0 rfl 0 (by decide) (by decide +kernel) rfl rfl dX1_turnWay_17 ?_
  refine z_iload_n K 2 dX1_turnWay_20 rfl ?_
  refine z_aload_n K 0 dX1_turnWay_21 rfl ?_
  refine z_get (C := RX1) (T := TX1) (N := 7) (ci := 1) K iX1 rfl 0 rfl 0 (by decide) (by decide +kernel) rfl rfl dX1_turnWay_22 ?_
  refine z_iload_n K 2 dX1_turnWay_25 rfl ?_
  refine z_ialdN K 1 0 j (by omega) (by omega) rfl rfl dX1_turnWay_26 ?_
  refine z_iload_n K 1 dX1_turnWay_27 rfl ?_
  refine z_callSN (st' := [.int (tu ((upd lw i (tu (lw i) (nI j))) j) (nI i)), .int (nI j), .ref aL0]) (rest := [.int (nI j), .ref aL0]) K (m_X2_turned l _ D cI cZ cQ cW ((upd lw i (tu (lw i) (nI j))) j) (nI i) ) gX1_turnWay_X2_turned_n34 rfl 2 (host := "FableIndex") (by decide) (by decide +kernel) (by decide +kernel) (by decide +kernel) dX1_turnWay_28 rfl rfl ⟨by decide, by decide⟩ ⟨by decide, by decide⟩ rfl rfl (Nat.le_of_ble_eq_true rfl) rfl ?_
  refine z_iastN K 1 0 j (by omega) (by omega) rfl rfl dX1_turnWay_31 (z_memA 0 rfl) (ws' := [(aL, .inr (1, [.ref aL0, .ref aL1, .ref aL2, .ref aL3, .ref aL4, .ref aL5, .int hu])), (aL0, .inl (cI, 6, .inl (upd (upd lw i (tu (lw i) (nI j))) j (tu ((upd lw i (tu (lw i) (nI j))) j) (nI i)))))]) rfl ?_
  rw [show (upd (upd lw i (tu (lw i) (nI j))) j (tu ((upd lw i (tu (lw i) (nI j))) j) (nI i))) = (turnW lw i j) from rfl]
  exact z_vret K dX1_turnWay_32 [1] rfl (by decide) (by decide)

set_option maxRecDepth 100000 in
set_option maxHeartbeats 4000000 in
theorem m_X1_welcome (l : Launch) (G : Nat → Prop) (D : va_G) (cI cZ cQ cW : ClassId) (aL : Nat) (aB : Nat) (v : Nat) (aL0 : Nat) (aL1 : Nat) (aL2 : Nat) (aL3 : Nat) (aL4 : Nat) (aL5 : Nat) (hu : Int32) (lm : Nat → Int32) (lb : Nat → Int32) (n : Nat) (aB0 : Nat) (aB1 : Nat) (aB2 : Nat) (aB3 : Nat) (aB4 : Nat) (aB5 : Nat) (fm : Nat → Int32) (fb : Nat → Int32) (hn : n ≤ 20) (hv : v < 6) : z_M l yX1_welcome wsX1_welcome { frames := 2, cells := 0, slots := 0, locals := 44 } G D [(cI, .int), (cZ, .boolean), (cQ, .array .int), (cW, .array .boolean)] [.ref aL, .ref aB, .int (nI v)] ([(aL, .inr (1, [.ref aL0, .ref aL1, .ref aL2, .ref aL3, .ref aL4, .ref aL5, .int hu])), (aL1, .inl (cI, 6, .inl lm)), (aL2, .inl (cI, 6, .inl lb)), (aB, .inr (0, [.int (nI n), .ref aB0, .ref aB1, .ref aB2, .ref aB3, .ref aB4, .ref aB5])), (aB0, .inl (cI, 20, .inl fm)), (aB1, .inl (cI, 20, .inl fb))]) (some (.int (welS lm lb fm fb v n))) [] 0 0 := by
  have iX0 : ∀ w ∈ u_ws RX0 TX0 7, w ∈ wsX1_welcome := fun w h => List.mem_cons_of_mem _ (List.mem_append_left _ (List.mem_append_right _ h))
  have iX1 : ∀ w ∈ u_ws RX1 TX1 7, w ∈ wsX1_welcome := fun w h => List.mem_cons_of_mem _ (List.mem_append_right _ h)
  refine z_ofW (cc := cX1_welcome) (nL := 5) (ret := (some .int)) (by decide) rfl (Nat.le_of_ble_eq_true rfl) [] rfl (lv0 := [(0, .ref aL), (1, .ref aB), (2, .int (nI v))]) rfl ?_
  intro p e s m args below meth c K
  refine z_iconst (v := 0) K dX1_welcome_0 (by decide) ?_
  refine z_istore_n (lv' := [(3, .int 0), (0, .ref aL), (1, .ref aB), (2, .int (nI v))]) K dX1_welcome_1 (by decide) rfl ?_
  refine z_iconst (v := 0) K dX1_welcome_2 (by decide) ?_
  refine z_istore (lv' := [(4, .int 0), (3, .int 0), (0, .ref aL), (1, .ref aB), (2, .int (nI v))]) K dX1_welcome_3 (by decide) rfl ?_
  refine z_loop (wsf := fun k => [(aL, .inr (1, [.ref aL0, .ref aL1, .ref aL2, .ref aL3, .ref aL4, .ref aL5, .int hu])), (aL1, .inl (cI, 6, .inl lm)), (aL2, .inl (cI, 6, .inl lb)), (aB, .inr (0, [.int (nI n), .ref aB0, .ref aB1, .ref aB2, .ref aB3, .ref aB4, .ref aB5])), (aB0, .inl (cI, 20, .inl fm)), (aB1, .inl (cI, 20, .inl fb))]) (lvf := fun k => [(4, .int (nI k)), (3, .int (welS lm lb fm fb v k)), (0, .ref aL), (1, .ref aB), (2, .int (nI v))]) n rfl rfl ?_ (fun k hk ihk => ?_)
  · refine z_iload K 0 dX1_welcome_5 rfl ?_
    refine z_aload_n K 3 dX1_welcome_7 rfl ?_
    refine z_get (C := RX0) (T := TX0) (N := 7) (ci := 0) K iX0 rfl 3 rfl 0 (by decide) (by decide +kernel) rfl rfl dX1_welcome_8 ?_
    refine z_cmpN K 38 n n dX1_welcome_11 (by decide) rfl rfl (by omega) (by omega) (fun _ => ?_) (fun h => absurd h (by omega))
    refine z_iload_n K 1 dX1_welcome_38 rfl ?_
    exact z_iret K dX1_welcome_39 ((by first | (simp only [welS, z_fold, Bool.false_eq_true, if_false, if_true, ↓reduceIte]; done) | rfl | simp [welS, z_fold])) [] rfl (by decide) (by decide)
  · refine z_iload K 0 dX1_welcome_5 rfl ?_
    refine z_aload_n K 3 dX1_welcome_7 rfl ?_
    refine z_get (C := RX0) (T := TX0) (N := 7) (ci := 0) K iX0 rfl 3 rfl 0 (by decide) (by decide +kernel) rfl rfl dX1_welcome_8 ?_
    refine z_cmpN K 38 k n dX1_welcome_11 (by decide) rfl rfl (by omega) (by omega) (fun h => absurd h (by omega)) (fun _ => ?_)
    refine z_aload_n K 2 dX1_welcome_14 rfl ?_
    refine z_aload_n K 3 dX1_welcome_15 rfl ?_
    refine z_iload K 0 dX1_welcome_16 rfl ?_
    refine z_iload_n K 4 dX1_welcome_18 rfl ?_
    refine z_callV (ws' := [(aL, .inr (1, [.ref aL0, .ref aL1, .ref aL2, .ref aL3, .ref aL4, .ref aL5, .int hu])), (aL1, .inl (cI, 6, .inl lm)), (aL2, .inl (cI, 6, .inl lb)), (aB, .inr (0, [.int (nI n), .ref aB0, .ref aB1, .ref aB2, .ref aB3, .ref aB4, .ref aB5])), (aB0, .inl (cI, 20, .inl fm)), (aB1, .inl (cI, 20, .inl fb))]) (st' := [.int (z_b (ban lm lb fm fb k v))]) (rest := []) (C := RX1) (T := TX1) (N := 7) K (m_X1_bans l _ D cI cZ cQ cW aL aB k v aL0 aL1 aL2 aL3 aL4 aL5 hu lm lb n aB0 aB1 aB2 aB3 aB4 aB5 fm fb (by omega) (by omega)) gX1_welcome_X1_bans rfl 3 1 (by decide +kernel) rfl dX1_welcome_19 [0, 1, 2, 3, 4, 5] 0 [] [] rfl rfl rfl ⟨by decide, by decide⟩ ⟨by decide, by decide⟩ rfl rfl rfl rfl rfl (Nat.le_of_ble_eq_true rfl) rfl rfl rfl rfl ?_
    refine z_if_neB K 32 dX1_welcome_22 (by decide) (fun c22 => ?_) (fun c22 => ?_)
    · refine z_iinc (lv' := [(4, .int (nI (k + 1))), (3, .int (welS lm lb fm fb v k)), (0, .ref aL), (1, .ref aB), (2, .int (nI v))]) (v := nI (k + 1)) K 0 dX1_welcome_32 rfl (z_inc1 k) (by decide) rfl ?_
      refine z_goto K 5 dX1_welcome_35 (by decide) ?_
      rw [show (welS lm lb fm fb v (k + 1)) = (welS lm lb fm fb v k) from (by first | (simp only [welS, z_fold, c22, Bool.false_eq_true, if_false, if_true, ↓reduceIte]; done) | rfl | simp [welS, z_fold, c22])] at ihk
      exact ihk
    · refine z_iload_n K 1 dX1_welcome_25 rfl ?_
      refine z_iconst (v := 1) K dX1_welcome_26 (by decide) ?_
      refine z_iload K 0 dX1_welcome_27 rfl ?_
      refine z_ishl K dX1_welcome_29 ?_
      refine z_ior K dX1_welcome_30 ?_
      refine z_istore_n (lv' := [(3, .int (welS lm lb fm fb v k ||| ((1 : Int32) <<< ((nI k) &&& 31)))), (4, .int (nI k)), (0, .ref aL), (1, .ref aB), (2, .int (nI v))]) K dX1_welcome_31 (by decide) rfl ?_
      refine z_iinc (lv' := [(4, .int (nI (k + 1))), (3, .int (welS lm lb fm fb v k ||| ((1 : Int32) <<< ((nI k) &&& 31)))), (0, .ref aL), (1, .ref aB), (2, .int (nI v))]) (v := nI (k + 1)) K 1 dX1_welcome_32 rfl (z_inc1 k) (by decide) rfl ?_
      refine z_goto K 5 dX1_welcome_35 (by decide) ?_
      rw [show (welS lm lb fm fb v (k + 1)) = (welS lm lb fm fb v k ||| ((1 : Int32) <<< ((nI k) &&& 31))) from (by first | (simp only [welS, z_fold, c22, Bool.false_eq_true, if_false, if_true, ↓reduceIte]; done) | rfl | simp [welS, z_fold, c22])] at ihk
      exact ihk

set_option maxRecDepth 100000 in
set_option maxHeartbeats 4000000 in
theorem m_X1_arriving (l : Launch) (G : Nat → Prop) (D : va_G) (cI cZ cQ cW : ClassId) (aL : Nat) (v : Nat) (aL0 : Nat) (aL1 : Nat) (aL2 : Nat) (aL3 : Nat) (aL4 : Nat) (aL5 : Nat) (hu : Int32) (lw : Nat → Int32) (lk : Nat → Int32) (hv : v < 6) : z_M l yX1_arriving wsX1_arriving { frames := 1, cells := 0, slots := 0, locals := 21 } G D [(cI, .int), (cZ, .boolean), (cQ, .array .int), (cW, .array .boolean)] [.ref aL, .int (nI v)] ([(aL, .inr (1, [.ref aL0, .ref aL1, .ref aL2, .ref aL3, .ref aL4, .ref aL5, .int hu])), (aL0, .inl (cI, 6, .inl lw)), (aL5, .inl (cI, 6, .inl lk))]) (some (.int (arrS lw lk v 6))) [] 0 0 := by
  have iX1 : ∀ w ∈ u_ws RX1 TX1 7, w ∈ wsX1_arriving := fun w h => List.mem_cons_of_mem _ (List.mem_append_right _ h)
  refine z_ofW (cc := cX1_arriving) (nL := 4) (ret := (some .int)) (by decide) rfl (Nat.le_of_ble_eq_true rfl) [] rfl (lv0 := [(0, .ref aL), (1, .int (nI v))]) rfl ?_
  intro p e s m args below meth c K
  refine z_iconst (v := 0) K dX1_arriving_0 (by decide) ?_
  refine z_istore_n (lv' := [(2, .int 0), (0, .ref aL), (1, .int (nI v))]) K dX1_arriving_1 (by decide) rfl ?_
  refine z_iconst (v := 0) K dX1_arriving_2 (by decide) ?_
  refine z_istore_n (lv' := [(3, .int 0), (2, .int 0), (0, .ref aL), (1, .int (nI v))]) K dX1_arriving_3 (by decide) rfl ?_
  refine z_loop (wsf := fun k => [(aL, .inr (1, [.ref aL0, .ref aL1, .ref aL2, .ref aL3, .ref aL4, .ref aL5, .int hu])), (aL0, .inl (cI, 6, .inl lw)), (aL5, .inl (cI, 6, .inl lk))]) (lvf := fun k => [(3, .int (nI k)), (2, .int (arrS lw lk v k)), (0, .ref aL), (1, .int (nI v))]) 6 rfl rfl ?_ (fun k hk ihk => ?_)
  · refine z_iload_n K 0 dX1_arriving_4 rfl ?_
    refine z_bipush (v := 6) K dX1_arriving_5 (by decide) ?_
    refine z_cmpN K 38 6 6 dX1_arriving_7 (by decide) rfl rfl (by omega) (by omega) (fun _ => ?_) (fun h => absurd h (by omega))
    refine z_iload_n K 1 dX1_arriving_38 rfl ?_
    exact z_iret K dX1_arriving_39 ((by first | (simp only [arrS, z_fold, Bool.false_eq_true, if_false, if_true, ↓reduceIte]; done) | rfl | simp [arrS, z_fold])) [] rfl (by decide) (by decide)
  · refine z_iload_n K 0 dX1_arriving_4 rfl ?_
    refine z_bipush (v := 6) K dX1_arriving_5 (by decide) ?_
    refine z_cmpN K 38 k 6 dX1_arriving_7 (by decide) rfl rfl (by omega) (by omega) (fun h => absurd h (by omega)) (fun _ => ?_)
    refine z_aload_n K 2 dX1_arriving_10 rfl ?_
    refine z_get (C := RX1) (T := TX1) (N := 7) (ci := 1) K iX1 rfl 0 rfl 0 (by decide) (by decide +kernel) rfl rfl dX1_arriving_11 ?_
    refine z_iload_n K 3 dX1_arriving_14 rfl ?_
    refine z_ialdN K 1 0 v (by omega) (by omega) rfl rfl dX1_arriving_15 ?_
    refine z_iload_n K 0 dX1_arriving_16 rfl ?_
    refine z_callSN (st' := [.int (z_b (hs (lw v) (nI k)))]) (rest := []) K (m_X2_has l _ D cI cZ cQ cW (lw v) (nI k) ) gX1_arriving_X2_has_n43 rfl 2 (host := "FableIndex") (by decide) (by decide +kernel) (by decide +kernel) (by decide +kernel) dX1_arriving_17 rfl rfl ⟨by decide, by decide⟩ ⟨by decide, by decide⟩ rfl rfl (Nat.le_of_ble_eq_true rfl) rfl ?_
    refine z_if_eqB K 32 dX1_arriving_20 (by decide) (fun c20 => ?_) (fun c20 => ?_)
    · refine z_iinc (lv' := [(3, .int (nI (k + 1))), (2, .int (arrS lw lk v k)), (0, .ref aL), (1, .int (nI v))]) (v := nI (k + 1)) K 0 dX1_arriving_32 rfl (z_inc1 k) (by decide) rfl ?_
      refine z_goto K 4 dX1_arriving_35 (by decide) ?_
      rw [show (arrS lw lk v (k + 1)) = (arrS lw lk v k) from (by first | (simp only [arrS, z_fold, c20, Bool.false_eq_true, if_false, if_true, ↓reduceIte]; done) | rfl | simp [arrS, z_fold, c20])] at ihk
      exact ihk
    · refine z_iload_n K 1 dX1_arriving_23 rfl ?_
      refine z_aload_n K 2 dX1_arriving_24 rfl ?_
      refine z_get (C := RX1) (T := TX1) (N := 7) (ci := 1) K iX1 rfl 0 rfl 5 (by decide) (by decide +kernel) rfl rfl dX1_arriving_25 ?_
      refine z_iload_n K 0 dX1_arriving_28 rfl ?_
      refine z_ialdN K 2 0 k (by omega) (by omega) rfl rfl dX1_arriving_29 ?_
      refine z_ior K dX1_arriving_30 ?_
      refine z_istore_n (lv' := [(2, .int (arrS lw lk v k ||| (lk k))), (3, .int (nI k)), (0, .ref aL), (1, .int (nI v))]) K dX1_arriving_31 (by decide) rfl ?_
      refine z_iinc (lv' := [(3, .int (nI (k + 1))), (2, .int (arrS lw lk v k ||| (lk k))), (0, .ref aL), (1, .int (nI v))]) (v := nI (k + 1)) K 1 dX1_arriving_32 rfl (z_inc1 k) (by decide) rfl ?_
      refine z_goto K 4 dX1_arriving_35 (by decide) ?_
      rw [show (arrS lw lk v (k + 1)) = (arrS lw lk v k ||| (lk k)) from (by first | (simp only [arrS, z_fold, c20, Bool.false_eq_true, if_false, if_true, ↓reduceIte]; done) | rfl | simp [arrS, z_fold, c20])] at ihk
      exact ihk

set_option maxRecDepth 100000 in
set_option maxHeartbeats 4000000 in
theorem m_X1_admitted (l : Launch) (G : Nat → Prop) (D : va_G) (cI cZ cQ cW : ClassId) (aL : Nat) (aB : Nat) (v : Nat) (x : Int32) (aL0 : Nat) (aL1 : Nat) (aL2 : Nat) (aL3 : Nat) (aL4 : Nat) (aL5 : Nat) (hu : Int32) (lm : Nat → Int32) (la : Nat → Int32) (n : Nat) (aB0 : Nat) (aB1 : Nat) (aB2 : Nat) (aB3 : Nat) (aB4 : Nat) (aB5 : Nat) (fm : Nat → Int32) (fv : Nat → Int32) (hn : n ≤ 20) (hv : v < 6) : z_M l yX1_admitted wsX1_admitted { frames := 1, cells := 0, slots := 0, locals := 21 } G D [(cI, .int), (cZ, .boolean), (cQ, .array .int), (cW, .array .boolean)] [.ref aL, .ref aB, .int (nI v), .int x] ([(aL, .inr (1, [.ref aL0, .ref aL1, .ref aL2, .ref aL3, .ref aL4, .ref aL5, .int hu])), (aL1, .inl (cI, 6, .inl lm)), (aL4, .inl (cI, 6, .inl la)), (aB, .inr (0, [.int (nI n), .ref aB0, .ref aB1, .ref aB2, .ref aB3, .ref aB4, .ref aB5])), (aB0, .inl (cI, 20, .inl fm)), (aB4, .inl (cI, 20, .inl fv))]) (some (.int (admS lm la fm fv v x n))) [] 0 0 := by
  have iX1 : ∀ w ∈ u_ws RX1 TX1 7, w ∈ wsX1_admitted := fun w h => List.mem_cons_of_mem _ (List.mem_append_left _ (List.mem_append_right _ h))
  have iX0 : ∀ w ∈ u_ws RX0 TX0 7, w ∈ wsX1_admitted := fun w h => List.mem_cons_of_mem _ (List.mem_append_right _ h)
  refine z_ofW (cc := cX1_admitted) (nL := 7) (ret := (some .int)) (by decide) rfl (Nat.le_of_ble_eq_true rfl) [] rfl (lv0 := [(0, .ref aL), (1, .ref aB), (2, .int (nI v)), (3, .int x)]) rfl ?_
  intro p e s m args below meth c K
  refine z_iload_n K 3 dX1_admitted_0 rfl ?_
  refine z_aload_n K 0 dX1_admitted_1 rfl ?_
  refine z_get (C := RX1) (T := TX1) (N := 7) (ci := 1) K iX1 rfl 0 rfl 4 (by decide) (by decide +kernel) rfl rfl dX1_admitted_2 ?_
  refine z_iload_n K 2 dX1_admitted_5 rfl ?_
  refine z_ialdN K 2 0 v (by omega) (by omega) rfl rfl dX1_admitted_6 ?_
  refine z_iand K dX1_admitted_7 ?_
  refine z_istore (lv' := [(4, .int (x &&& (la v))), (0, .ref aL), (1, .ref aB), (2, .int (nI v)), (3, .int x)]) K dX1_admitted_8 (by decide) rfl ?_
  refine z_iload_n K 4 dX1_admitted_10 rfl ?_
  refine z_aload_n K 1 dX1_admitted_11 rfl ?_
  refine z_get (C := RX1) (T := TX1) (N := 7) (ci := 1) K iX1 rfl 0 rfl 4 (by decide) (by decide +kernel) rfl rfl dX1_admitted_12 ?_
  refine z_iload_n K 3 dX1_admitted_15 rfl ?_
  refine z_ialdN K 2 0 v (by omega) (by omega) rfl rfl dX1_admitted_16 ?_
  refine z_iconst (v := (-1)) K dX1_admitted_17 (by decide) ?_
  refine z_ixor K dX1_admitted_18 ?_
  refine z_iand K dX1_admitted_19 ?_
  refine z_istore (lv' := [(5, .int (x &&& ((la v) ^^^ (-1)))), (4, .int (x &&& (la v))), (0, .ref aL), (1, .ref aB), (2, .int (nI v)), (3, .int x)]) K dX1_admitted_20 (by decide) rfl ?_
  refine z_iconst (v := 0) K dX1_admitted_22 (by decide) ?_
  refine z_istore (lv' := [(6, .int 0), (5, .int (x &&& ((la v) ^^^ (-1)))), (4, .int (x &&& (la v))), (0, .ref aL), (1, .ref aB), (2, .int (nI v)), (3, .int x)]) K dX1_admitted_23 (by decide) rfl ?_
  refine z_loop (wsf := fun k => [(aL, .inr (1, [.ref aL0, .ref aL1, .ref aL2, .ref aL3, .ref aL4, .ref aL5, .int hu])), (aL1, .inl (cI, 6, .inl lm)), (aL4, .inl (cI, 6, .inl la)), (aB, .inr (0, [.int (nI n), .ref aB0, .ref aB1, .ref aB2, .ref aB3, .ref aB4, .ref aB5])), (aB0, .inl (cI, 20, .inl fm)), (aB4, .inl (cI, 20, .inl fv))]) (lvf := fun k => [(6, .int (nI k)), (5, .int (x &&& ((la v) ^^^ (-1)))), (4, .int (admS lm la fm fv v x k)), (0, .ref aL), (1, .ref aB), (2, .int (nI v)), (3, .int x)]) n rfl rfl ?_ (fun k hk ihk => ?_)
  · refine z_iload K 0 dX1_admitted_25 rfl ?_
    refine z_aload_n K 4 dX1_admitted_27 rfl ?_
    refine z_get (C := RX0) (T := TX0) (N := 7) (ci := 0) K iX0 rfl 3 rfl 0 (by decide) (by decide +kernel) rfl rfl dX1_admitted_28 ?_
    refine z_cmpN K 91 n n dX1_admitted_31 (by decide) rfl rfl (by omega) (by omega) (fun _ => ?_) (fun h => absurd h (by omega))
    refine z_iload K 2 dX1_admitted_91 rfl ?_
    exact z_iret K dX1_admitted_93 ((by first | (simp only [admS, z_fold, Bool.false_eq_true, if_false, if_true, ↓reduceIte]; done) | rfl | simp [admS, z_fold])) [] rfl (by decide) (by decide)
  · refine z_iload K 0 dX1_admitted_25 rfl ?_
    refine z_aload_n K 4 dX1_admitted_27 rfl ?_
    refine z_get (C := RX0) (T := TX0) (N := 7) (ci := 0) K iX0 rfl 3 rfl 0 (by decide) (by decide +kernel) rfl rfl dX1_admitted_28 ?_
    refine z_cmpN K 91 k n dX1_admitted_31 (by decide) rfl rfl (by omega) (by omega) (fun h => absurd h (by omega)) (fun _ => ?_)
    refine z_iload K 1 dX1_admitted_34 rfl ?_
    refine z_iload K 0 dX1_admitted_36 rfl ?_
    refine z_callSN (st' := [.int (z_b (hs (x &&& ((la v) ^^^ (-1))) (nI k)))]) (rest := []) K (m_X2_has l _ D cI cZ cQ cW (x &&& ((la v) ^^^ (-1))) (nI k) ) gX1_admitted_X2_has_n43 rfl 2 (host := "FableIndex") (by decide) (by decide +kernel) (by decide +kernel) (by decide +kernel) dX1_admitted_38 rfl rfl ⟨by decide, by decide⟩ ⟨by decide, by decide⟩ rfl rfl (Nat.le_of_ble_eq_true rfl) rfl ?_
    refine z_if_eqB K 85 dX1_admitted_41 (by decide) (fun c41 => ?_) (fun c41 => ?_)
    · refine z_iinc (lv' := [(6, .int (nI (k + 1))), (5, .int (x &&& ((la v) ^^^ (-1)))), (4, .int (admS lm la fm fv v x k)), (0, .ref aL), (1, .ref aB), (2, .int (nI v)), (3, .int x)]) (v := nI (k + 1)) K 0 dX1_admitted_85 rfl (z_inc1 k) (by decide) rfl ?_
      refine z_goto K 25 dX1_admitted_88 (by decide) ?_
      rw [show (admS lm la fm fv v x (k + 1)) = (admS lm la fm fv v x k) from (by first | (simp only [admS, z_fold, c41, Bool.false_eq_true, if_false, if_true, ↓reduceIte]; done) | rfl | simp [admS, z_fold, c41])] at ihk
      exact ihk
    · refine z_aload_n K 3 dX1_admitted_44 rfl ?_
      refine z_get (C := RX1) (T := TX1) (N := 7) (ci := 1) K iX1 rfl 0 rfl 1 (by decide) (by decide +kernel) rfl rfl dX1_admitted_45 ?_
      refine z_iload_n K 5 dX1_admitted_48 rfl ?_
      refine z_ialdN K 1 0 v (by omega) (by omega) rfl rfl dX1_admitted_49 ?_
      refine z_aload_n K 4 dX1_admitted_50 rfl ?_
      refine z_get (C := RX0) (T := TX0) (N := 7) (ci := 0) K iX0 rfl 3 rfl 1 (by decide) (by decide +kernel) rfl rfl dX1_admitted_51 ?_
      refine z_iload K 0 dX1_admitted_54 rfl ?_
      refine z_ialdN K 4 0 k (by omega) (by omega) rfl rfl dX1_admitted_56 ?_
      refine z_callSN (st' := [.int (z_b (hs (lm v) (fm k)))]) (rest := []) K (m_X2_has l _ D cI cZ cQ cW (lm v) (fm k) ) gX1_admitted_X2_has_n43 rfl 2 (host := "FableIndex") (by decide) (by decide +kernel) (by decide +kernel) (by decide +kernel) dX1_admitted_57 rfl rfl ⟨by decide, by decide⟩ ⟨by decide, by decide⟩ rfl rfl (Nat.le_of_ble_eq_true rfl) rfl ?_
      refine z_if_neB K 85 dX1_admitted_60 (by decide) (fun c60 => ?_) (fun c60 => ?_)
      · refine z_iinc (lv' := [(6, .int (nI (k + 1))), (5, .int (x &&& ((la v) ^^^ (-1)))), (4, .int (admS lm la fm fv v x k)), (0, .ref aL), (1, .ref aB), (2, .int (nI v)), (3, .int x)]) (v := nI (k + 1)) K 0 dX1_admitted_85 rfl (z_inc1 k) (by decide) rfl ?_
        refine z_goto K 25 dX1_admitted_88 (by decide) ?_
        rw [show (admS lm la fm fv v x (k + 1)) = (admS lm la fm fv v x k) from (by first | (simp only [admS, z_fold, c41, c60, Bool.false_eq_true, if_false, if_true, ↓reduceIte]; done) | rfl | simp [admS, z_fold, c41, c60])] at ihk
        exact ihk
      · refine z_iload K 2 dX1_admitted_63 rfl ?_
        refine z_aload_n K 4 dX1_admitted_65 rfl ?_
        refine z_get (C := RX0) (T := TX0) (N := 7) (ci := 0) K iX0 rfl 3 rfl 5 (by decide) (by decide +kernel) rfl rfl dX1_admitted_66 ?_
        refine z_iload K 0 dX1_admitted_69 rfl ?_
        refine z_ialdN K 5 0 k (by omega) (by omega) rfl rfl dX1_admitted_71 ?_
        refine z_aload_n K 3 dX1_admitted_72 rfl ?_
        refine z_get (C := RX1) (T := TX1) (N := 7) (ci := 1) K iX1 rfl 0 rfl 4 (by decide) (by decide +kernel) rfl rfl dX1_admitted_73 ?_
        refine z_iload_n K 5 dX1_admitted_76 rfl ?_
        refine z_ialdN K 2 0 v (by omega) (by omega) rfl rfl dX1_admitted_77 ?_
        refine z_iand K dX1_admitted_78 ?_
        refine z_callSN (st' := [.int (sal ((fv k) &&& (la v))), .int (admS lm la fm fv v x k)]) (rest := [.int (admS lm la fm fv v x k)]) K (m_X2_smallestAlone l _ D cI cZ cQ cW ((fv k) &&& (la v)) ) gX1_admitted_X2_smallestAlone_n82 rfl 1 (host := "FableIndex") (by decide) (by decide +kernel) (by decide +kernel) (by decide +kernel) dX1_admitted_79 rfl rfl ⟨by decide, by decide⟩ ⟨by decide, by decide⟩ rfl rfl (Nat.le_of_ble_eq_true rfl) rfl ?_
        refine z_ior K dX1_admitted_82 ?_
        refine z_istore (lv' := [(4, .int (admS lm la fm fv v x k ||| (sal ((fv k) &&& (la v))))), (6, .int (nI k)), (5, .int (x &&& ((la v) ^^^ (-1)))), (0, .ref aL), (1, .ref aB), (2, .int (nI v)), (3, .int x)]) K dX1_admitted_83 (by decide) rfl ?_
        refine z_iinc (lv' := [(6, .int (nI (k + 1))), (4, .int (admS lm la fm fv v x k ||| (sal ((fv k) &&& (la v))))), (5, .int (x &&& ((la v) ^^^ (-1)))), (0, .ref aL), (1, .ref aB), (2, .int (nI v)), (3, .int x)]) (v := nI (k + 1)) K 1 dX1_admitted_85 rfl (z_inc1 k) (by decide) rfl ?_
        refine z_goto K 25 dX1_admitted_88 (by decide) ?_
        refine z_lv (lv' := [(6, .int (nI (k + 1))), (5, .int (x &&& ((la v) ^^^ (-1)))), (4, .int (admS lm la fm fv v x k ||| (sal ((fv k) &&& (la v))))), (0, .ref aL), (1, .ref aB), (2, .int (nI v)), (3, .int x)]) [0, 2, 1, 3, 4, 5, 6] rfl ?_
        rw [show (admS lm la fm fv v x (k + 1)) = (admS lm la fm fv v x k ||| (sal ((fv k) &&& (la v)))) from (by first | (simp only [admS, z_fold, c41, c60, Bool.false_eq_true, if_false, if_true, ↓reduceIte]; done) | rfl | simp [admS, z_fold, c41, c60])] at ihk
        exact ihk

set_option maxRecDepth 100000 in
set_option maxHeartbeats 4000000 in
theorem m_X1_hush (l : Launch) (G : Nat → Prop) (D : va_G) (cI cZ cQ cW : ClassId) (aL : Nat) (aL0 : Nat) (aL1 : Nat) (aL2 : Nat) (aL3 : Nat) (aL4 : Nat) (aL5 : Nat) (hu : Int32) (lt : Nat → Int32) (la : Nat → Int32) (lk : Nat → Int32)  : z_M l yX1_hush wsX1_hush { frames := 2, cells := 0, slots := 0, locals := 40 } G D [(cI, .int), (cZ, .boolean), (cQ, .array .int), (cW, .array .boolean)] [.ref aL] ([(aL, .inr (1, [.ref aL0, .ref aL1, .ref aL2, .ref aL3, .ref aL4, .ref aL5, .int hu])), (aL3, .inl (cI, 6, .inl lt)), (aL4, .inl (cI, 6, .inl la)), (aL5, .inl (cI, 6, .inl lk))]) none [(aL, .inr (1, [.ref aL0, .ref aL1, .ref aL2, .ref aL3, .ref aL4, .ref aL5, .int (hushH la lt hu 6)])), (aL5, .inl (cI, 6, .inl (hushK la lt lk 6)))] 0 0 := by
  have iX1 : ∀ w ∈ u_ws RX1 TX1 7, w ∈ wsX1_hush := fun w h => List.mem_cons_of_mem _ (List.mem_append_right _ h)
  refine z_ofW (cc := cX1_hush) (nL := 2) (ret := none) (by decide) rfl (Nat.le_of_ble_eq_true rfl) [0, 3] rfl (lv0 := [(0, .ref aL)]) rfl ?_
  intro p e s m args below meth c K
  refine z_iconst (v := 0) K dX1_hush_0 (by decide) ?_
  refine z_istore_n (lv' := [(1, .int 0), (0, .ref aL)]) K dX1_hush_1 (by decide) rfl ?_
  refine z_loop (wsf := fun k => [(aL, .inr (1, [.ref aL0, .ref aL1, .ref aL2, .ref aL3, .ref aL4, .ref aL5, .int (hushH la lt hu k)])), (aL3, .inl (cI, 6, .inl lt)), (aL4, .inl (cI, 6, .inl la)), (aL5, .inl (cI, 6, .inl (hushK la lt lk k)))]) (lvf := fun k => [(1, .int (nI k)), (0, .ref aL)]) 6 rfl rfl ?_ (fun k hk ihk => ?_)
  · refine z_iload_n K 0 dX1_hush_2 rfl ?_
    refine z_bipush (v := 6) K dX1_hush_3 (by decide) ?_
    refine z_cmpN K 60 6 6 dX1_hush_5 (by decide) rfl rfl (by omega) (by omega) (fun _ => ?_) (fun h => absurd h (by omega))
    exact z_vret K dX1_hush_60 [0, 3] rfl (by decide) (by decide)
  · refine z_iload_n K 0 dX1_hush_2 rfl ?_
    refine z_bipush (v := 6) K dX1_hush_3 (by decide) ?_
    refine z_cmpN K 60 k 6 dX1_hush_5 (by decide) rfl rfl (by omega) (by omega) (fun h => absurd h (by omega)) (fun _ => ?_)
    refine z_aload_n K 1 dX1_hush_8 rfl ?_
    refine z_get (C := RX1) (T := TX1) (N := 7) (ci := 1) K iX1 rfl 0 rfl 5 (by decide) (by decide +kernel) rfl rfl dX1_hush_9 ?_
    refine z_iload_n K 0 dX1_hush_12 rfl ?_
    refine z_aload_n K 1 dX1_hush_13 rfl ?_
    refine z_get (C := RX1) (T := TX1) (N := 7) (ci := 1) K iX1 rfl 0 rfl 3 (by decide) (by decide +kernel) rfl rfl dX1_hush_14 ?_
    refine z_iload_n K 0 dX1_hush_17 rfl ?_
    refine z_ialdN K 1 0 k (by omega) (by omega) rfl rfl dX1_hush_18 ?_
    refine z_aload_n K 1 dX1_hush_19 rfl ?_
    refine z_get (C := RX1) (T := TX1) (N := 7) (ci := 1) K iX1 rfl 0 rfl 4 (by decide) (by decide +kernel) rfl rfl dX1_hush_20 ?_
    refine z_iload_n K 0 dX1_hush_23 rfl ?_
    refine z_ialdN K 2 0 k (by omega) (by omega) rfl rfl dX1_hush_24 ?_
    refine z_iand K dX1_hush_25 ?_
    refine z_iastN K 3 0 k (by omega) (by omega) rfl rfl dX1_hush_26 (z_memA 1 rfl) (ws' := [(aL, .inr (1, [.ref aL0, .ref aL1, .ref aL2, .ref aL3, .ref aL4, .ref aL5, .int (hushH la lt hu k)])), (aL3, .inl (cI, 6, .inl lt)), (aL4, .inl (cI, 6, .inl la)), (aL5, .inl (cI, 6, .inl (upd (hushK la lt lk k) k ((lt k) &&& (la k)))))]) rfl ?_
    refine z_aload_n K 1 dX1_hush_27 rfl ?_
    refine z_dup K dX1_hush_28 rfl ?_
    refine z_get (C := RX1) (T := TX1) (N := 7) (ci := 1) K iX1 rfl 0 rfl 6 (by decide) (by decide +kernel) rfl rfl dX1_hush_29 ?_
    refine z_aload_n K 1 dX1_hush_32 rfl ?_
    refine z_get (C := RX1) (T := TX1) (N := 7) (ci := 1) K iX1 rfl 0 rfl 3 (by decide) (by decide +kernel) rfl rfl dX1_hush_33 ?_
    refine z_iload_n K 0 dX1_hush_36 rfl ?_
    refine z_ialdN K 1 0 k (by omega) (by omega) rfl rfl dX1_hush_37 ?_
    refine z_aload_n K 1 dX1_hush_38 rfl ?_
    refine z_get (C := RX1) (T := TX1) (N := 7) (ci := 1) K iX1 rfl 0 rfl 4 (by decide) (by decide +kernel) rfl rfl dX1_hush_39 ?_
    refine z_iload_n K 0 dX1_hush_42 rfl ?_
    refine z_ialdN K 2 0 k (by omega) (by omega) rfl rfl dX1_hush_43 ?_
    refine z_iconst (v := (-1)) K dX1_hush_44 (by decide) ?_
    refine z_ixor K dX1_hush_45 ?_
    refine z_iand K dX1_hush_46 ?_
    refine z_callSN (st' := [.int (pc ((lt k) &&& ((la k) ^^^ (-1)))), .int (hushH la lt hu k), .ref aL]) (rest := [.int (hushH la lt hu k), .ref aL]) K (m_X2_size l _ D cI cZ cQ cW ((lt k) &&& ((la k) ^^^ (-1))) ) gX1_hush_X2_size_n57 rfl 1 (host := "FableIndex") (by decide) (by decide +kernel) (by decide +kernel) (by decide +kernel) dX1_hush_47 rfl rfl ⟨by decide, by decide⟩ ⟨by decide, by decide⟩ rfl rfl (Nat.le_of_ble_eq_true rfl) rfl ?_
    refine z_iadd K dX1_hush_50 ?_
    refine z_put (C := RX1) (T := TX1) (N := 7) (ci := 1) K iX1 rfl tyX1 tyX1_ok nmX1 0 rfl 6 (by decide) (by decide +kernel) rfl rfl rfl rfl (Nat.le_of_ble_eq_true rfl) (z_memA 0 rfl) (ws' := [(aL, .inr (1, [.ref aL0, .ref aL1, .ref aL2, .ref aL3, .ref aL4, .ref aL5, .int ((hushH la lt hu k) + (pc ((lt k) &&& ((la k) ^^^ (-1)))))])), (aL3, .inl (cI, 6, .inl lt)), (aL4, .inl (cI, 6, .inl la)), (aL5, .inl (cI, 6, .inl (upd (hushK la lt lk k) k ((lt k) &&& (la k)))))]) rfl dX1_hush_51 ?_
    refine z_iinc (lv' := [(1, .int (nI (k + 1))), (0, .ref aL)]) (v := nI (k + 1)) K 0 dX1_hush_54 rfl (z_inc1 k) (by decide) rfl ?_
    refine z_goto K 2 dX1_hush_57 (by decide) ?_
    rw [show (hushH la lt hu (k + 1)) = ((hushH la lt hu k) + (pc ((lt k) &&& ((la k) ^^^ (-1))))) from (by first | (simp only [hushK, hushH, z_fold, Bool.false_eq_true, if_false, if_true, ↓reduceIte]; done) | rfl | simp [hushK, hushH, z_fold])] at ihk
    rw [show (hushK la lt lk (k + 1)) = (upd (hushK la lt lk k) k ((lt k) &&& (la k))) from (by first | (simp only [hushK, hushH, z_fold, Bool.false_eq_true, if_false, if_true, ↓reduceIte]; done) | rfl | simp [hushK, hushH, z_fold])] at ihk
    exact ihk

set_option maxRecDepth 100000 in
set_option maxHeartbeats 4000000 in
theorem m_X1_spread (l : Launch) (G : Nat → Prop) (D : va_G) (cI cZ cQ cW : ClassId) (aL : Nat) (aB : Nat) (aL0 : Nat) (aL1 : Nat) (aL2 : Nat) (aL3 : Nat) (aL4 : Nat) (aL5 : Nat) (hu : Int32) (lw : Nat → Int32) (lm : Nat → Int32) (lt : Nat → Int32) (la : Nat → Int32) (lk : Nat → Int32) (n : Nat) (aB0 : Nat) (aB1 : Nat) (aB2 : Nat) (aB3 : Nat) (aB4 : Nat) (aB5 : Nat) (fm : Nat → Int32) (fv : Nat → Int32) (hn : n ≤ 20) : z_M l yX1_spread wsX1_spread { frames := 2, cells := 0, slots := 0, locals := 47 } G D [(cI, .int), (cZ, .boolean), (cQ, .array .int), (cW, .array .boolean)] [.ref aL, .ref aB] ([(aL, .inr (1, [.ref aL0, .ref aL1, .ref aL2, .ref aL3, .ref aL4, .ref aL5, .int hu])), (aL0, .inl (cI, 6, .inl lw)), (aL1, .inl (cI, 6, .inl lm)), (aL3, .inl (cI, 6, .inl lt)), (aL4, .inl (cI, 6, .inl la)), (aL5, .inl (cI, 6, .inl lk)), (aB, .inr (0, [.int (nI n), .ref aB0, .ref aB1, .ref aB2, .ref aB3, .ref aB4, .ref aB5])), (aB0, .inl (cI, 20, .inl fm)), (aB4, .inl (cI, 20, .inl fv))]) (some (.int (z_b (sprC lw lm la lk fm fv n lt 6)))) [(aL3, .inl (cI, 6, .inl (sprT lw lm la lk fm fv n lt 6)))] 0 0 := by
  have iX1 : ∀ w ∈ u_ws RX1 TX1 7, w ∈ wsX1_spread := fun w h => List.mem_cons_of_mem _ (List.mem_append_left _ (List.mem_append_right _ h))
  have iX0 : ∀ w ∈ u_ws RX0 TX0 7, w ∈ wsX1_spread := fun w h => List.mem_cons_of_mem _ (List.mem_append_right _ h)
  refine z_ofW (cc := cX1_spread) (nL := 5) (ret := (some .boolean)) (by decide) rfl (Nat.le_of_ble_eq_true rfl) [3] rfl (lv0 := [(0, .ref aL), (1, .ref aB)]) rfl ?_
  intro p e s m args below meth c K
  refine z_iconst (v := 0) K dX1_spread_0 (by decide) ?_
  refine z_istore_n (lv' := [(2, .int 0), (0, .ref aL), (1, .ref aB)]) K dX1_spread_1 (by decide) rfl ?_
  refine z_iconst (v := 0) K dX1_spread_2 (by decide) ?_
  refine z_istore_n (lv' := [(3, .int 0), (2, .int 0), (0, .ref aL), (1, .ref aB)]) K dX1_spread_3 (by decide) rfl ?_
  refine z_loop (wsf := fun k => [(aL, .inr (1, [.ref aL0, .ref aL1, .ref aL2, .ref aL3, .ref aL4, .ref aL5, .int hu])), (aL0, .inl (cI, 6, .inl lw)), (aL1, .inl (cI, 6, .inl lm)), (aL3, .inl (cI, 6, .inl (sprT lw lm la lk fm fv n lt k))), (aL4, .inl (cI, 6, .inl la)), (aL5, .inl (cI, 6, .inl lk)), (aB, .inr (0, [.int (nI n), .ref aB0, .ref aB1, .ref aB2, .ref aB3, .ref aB4, .ref aB5])), (aB0, .inl (cI, 20, .inl fm)), (aB4, .inl (cI, 20, .inl fv))]) (lvf := fun k => [(3, .int (nI k)), (2, .int (z_b (sprC lw lm la lk fm fv n lt k))), (0, .ref aL), (1, .ref aB)]) 6 rfl rfl ?_ (fun k hk ihk => ?_)
  · refine z_iload_n K 0 dX1_spread_4 rfl ?_
    refine z_bipush (v := 6) K dX1_spread_5 (by decide) ?_
    refine z_cmpN K 65 6 6 dX1_spread_7 (by decide) rfl rfl (by omega) (by omega) (fun _ => ?_) (fun h => absurd h (by omega))
    refine z_iload_n K 1 dX1_spread_65 rfl ?_
    exact z_zret K dX1_spread_66 (rfl) [3] rfl (by decide) (by decide)
  · refine z_iload_n K 0 dX1_spread_4 rfl ?_
    refine z_bipush (v := 6) K dX1_spread_5 (by decide) ?_
    refine z_cmpN K 65 k 6 dX1_spread_7 (by decide) rfl rfl (by omega) (by omega) (fun h => absurd h (by omega)) (fun _ => ?_)
    refine z_aload_n K 2 dX1_spread_10 rfl ?_
    refine z_get (C := RX1) (T := TX1) (N := 7) (ci := 1) K iX1 rfl 0 rfl 5 (by decide) (by decide +kernel) rfl rfl dX1_spread_11 ?_
    refine z_iload_n K 0 dX1_spread_14 rfl ?_
    refine z_ialdN K 5 0 k (by omega) (by omega) rfl rfl dX1_spread_15 ?_
    refine z_aload_n K 2 dX1_spread_16 rfl ?_
    refine z_aload_n K 3 dX1_spread_17 rfl ?_
    refine z_iload_n K 0 dX1_spread_18 rfl ?_
    refine z_aload_n K 2 dX1_spread_19 rfl ?_
    refine z_iload_n K 0 dX1_spread_20 rfl ?_
    refine z_callV (ws' := [(aL, .inr (1, [.ref aL0, .ref aL1, .ref aL2, .ref aL3, .ref aL4, .ref aL5, .int hu])), (aL0, .inl (cI, 6, .inl lw)), (aL1, .inl (cI, 6, .inl lm)), (aL3, .inl (cI, 6, .inl (sprT lw lm la lk fm fv n lt k))), (aL4, .inl (cI, 6, .inl la)), (aL5, .inl (cI, 6, .inl lk)), (aB, .inr (0, [.int (nI n), .ref aB0, .ref aB1, .ref aB2, .ref aB3, .ref aB4, .ref aB5])), (aB0, .inl (cI, 20, .inl fm)), (aB4, .inl (cI, 20, .inl fv))]) (st' := [.int (arrS lw lk k 6), .int (nI k), .ref aB, .ref aL, .int (lk k)]) (rest := [.int (nI k), .ref aB, .ref aL, .int (lk k)]) (C := RX1) (T := TX1) (N := 7) K (m_X1_arriving l _ D cI cZ cQ cW aL k aL0 aL1 aL2 aL3 aL4 aL5 hu lw lk (by omega)) gX1_spread_X1_arriving rfl 1 1 (by decide +kernel) rfl dX1_spread_21 [0, 1, 5] 0 [] [] rfl rfl rfl ⟨by decide, by decide⟩ ⟨by decide, by decide⟩ rfl rfl rfl rfl rfl (Nat.le_of_ble_eq_true rfl) rfl rfl rfl rfl ?_
    refine z_callV (ws' := [(aL, .inr (1, [.ref aL0, .ref aL1, .ref aL2, .ref aL3, .ref aL4, .ref aL5, .int hu])), (aL0, .inl (cI, 6, .inl lw)), (aL1, .inl (cI, 6, .inl lm)), (aL3, .inl (cI, 6, .inl (sprT lw lm la lk fm fv n lt k))), (aL4, .inl (cI, 6, .inl la)), (aL5, .inl (cI, 6, .inl lk)), (aB, .inr (0, [.int (nI n), .ref aB0, .ref aB1, .ref aB2, .ref aB3, .ref aB4, .ref aB5])), (aB0, .inl (cI, 20, .inl fm)), (aB4, .inl (cI, 20, .inl fv))]) (st' := [.int (admS lm la fm fv k (arrS lw lk k 6) n), .int (lk k)]) (rest := [.int (lk k)]) (C := RX1) (T := TX1) (N := 7) K (m_X1_admitted l _ D cI cZ cQ cW aL aB k (arrS lw lk k 6) aL0 aL1 aL2 aL3 aL4 aL5 hu lm la n aB0 aB1 aB2 aB3 aB4 aB5 fm fv (by omega) (by omega)) gX1_spread_X1_admitted rfl 3 1 (by decide +kernel) rfl dX1_spread_24 [0, 2, 4, 6, 7, 8] 0 [] [] rfl rfl rfl ⟨by decide, by decide⟩ ⟨by decide, by decide⟩ rfl rfl rfl rfl rfl (Nat.le_of_ble_eq_true rfl) rfl rfl rfl rfl ?_
    refine z_ior K dX1_spread_27 ?_
    refine z_istore (lv' := [(4, .int ((lk k) ||| (admS lm la fm fv k (arrS lw lk k 6) n))), (3, .int (nI k)), (2, .int (z_b (sprC lw lm la lk fm fv n lt k))), (0, .ref aL), (1, .ref aB)]) K dX1_spread_28 (by decide) rfl ?_
    refine z_iload_n K 2 dX1_spread_30 rfl ?_
    refine z_if_neB K 45 dX1_spread_31 (by decide) (fun c31 => ?_) (fun c31 => ?_)
    · refine z_iconst (v := 1) K dX1_spread_45 (by decide) ?_
      refine z_goto K 50 dX1_spread_46 (by decide) ?_
      refine z_istore_n (lv' := [(2, .int 1), (4, .int ((lk k) ||| (admS lm la fm fv k (arrS lw lk k 6) n))), (3, .int (nI k)), (0, .ref aL), (1, .ref aB)]) K dX1_spread_50 (by decide) rfl ?_
      refine z_aload_n K 3 dX1_spread_51 rfl ?_
      refine z_get (C := RX1) (T := TX1) (N := 7) (ci := 1) K iX1 rfl 0 rfl 3 (by decide) (by decide +kernel) rfl rfl dX1_spread_52 ?_
      refine z_iload_n K 2 dX1_spread_55 rfl ?_
      refine z_iload K 1 dX1_spread_56 rfl ?_
      refine z_iastN K 3 0 k (by omega) (by omega) rfl rfl dX1_spread_58 (z_memA 0 rfl) (ws' := [(aL, .inr (1, [.ref aL0, .ref aL1, .ref aL2, .ref aL3, .ref aL4, .ref aL5, .int hu])), (aL0, .inl (cI, 6, .inl lw)), (aL1, .inl (cI, 6, .inl lm)), (aL3, .inl (cI, 6, .inl (upd (sprT lw lm la lk fm fv n lt k) k ((lk k) ||| (admS lm la fm fv k (arrS lw lk k 6) n))))), (aL4, .inl (cI, 6, .inl la)), (aL5, .inl (cI, 6, .inl lk)), (aB, .inr (0, [.int (nI n), .ref aB0, .ref aB1, .ref aB2, .ref aB3, .ref aB4, .ref aB5])), (aB0, .inl (cI, 20, .inl fm)), (aB4, .inl (cI, 20, .inl fv))]) rfl ?_
      refine z_iinc (lv' := [(3, .int (nI (k + 1))), (2, .int 1), (4, .int ((lk k) ||| (admS lm la fm fv k (arrS lw lk k 6) n))), (0, .ref aL), (1, .ref aB)]) (v := nI (k + 1)) K 2 dX1_spread_59 rfl (z_inc1 k) (by decide) rfl ?_
      refine z_goto K 4 dX1_spread_62 (by decide) ?_
      refine z_lv (lv' := [(3, .int (nI (k + 1))), (2, .int 1), (0, .ref aL), (1, .ref aB)]) [0, 1, 3, 4] rfl ?_
      rw [show (z_b (sprC lw lm la lk fm fv n lt (k + 1))) = 1 from (by first | (simp only [sprC_succ, thenS, z_b, c31, Bool.false_eq_true, if_false, if_true, ↓reduceIte]; done) | rfl | simp [sprC_succ, thenS, z_b, c31])] at ihk
      rw [show (sprT lw lm la lk fm fv n lt (k + 1)) = (upd (sprT lw lm la lk fm fv n lt k) k ((lk k) ||| (admS lm la fm fv k (arrS lw lk k 6) n))) from (by first | (simp only [sprC_succ, thenS, z_b, c31, Bool.false_eq_true, if_false, if_true, ↓reduceIte]; done) | rfl | simp [sprC_succ, thenS, z_b, c31])] at ihk
      exact ihk
    · refine z_iload K 0 dX1_spread_34 rfl ?_
      refine z_aload_n K 3 dX1_spread_36 rfl ?_
      refine z_get (C := RX1) (T := TX1) (N := 7) (ci := 1) K iX1 rfl 0 rfl 3 (by decide) (by decide +kernel) rfl rfl dX1_spread_37 ?_
      refine z_iload_n K 1 dX1_spread_40 rfl ?_
      refine z_ialdN K 3 0 k (by omega) (by omega) rfl rfl dX1_spread_41 ?_
      refine z_icmp_eq K 49 dX1_spread_42 (by decide) (fun c42 => ?_) (fun c42 => ?_)
      · refine z_iconst (v := 0) K dX1_spread_49 (by decide) ?_
        refine z_istore_n (lv' := [(2, .int 0), (4, .int ((lk k) ||| (admS lm la fm fv k (arrS lw lk k 6) n))), (3, .int (nI k)), (0, .ref aL), (1, .ref aB)]) K dX1_spread_50 (by decide) rfl ?_
        refine z_aload_n K 3 dX1_spread_51 rfl ?_
        refine z_get (C := RX1) (T := TX1) (N := 7) (ci := 1) K iX1 rfl 0 rfl 3 (by decide) (by decide +kernel) rfl rfl dX1_spread_52 ?_
        refine z_iload_n K 2 dX1_spread_55 rfl ?_
        refine z_iload K 1 dX1_spread_56 rfl ?_
        refine z_iastN K 3 0 k (by omega) (by omega) rfl rfl dX1_spread_58 (z_memA 0 rfl) (ws' := [(aL, .inr (1, [.ref aL0, .ref aL1, .ref aL2, .ref aL3, .ref aL4, .ref aL5, .int hu])), (aL0, .inl (cI, 6, .inl lw)), (aL1, .inl (cI, 6, .inl lm)), (aL3, .inl (cI, 6, .inl (upd (sprT lw lm la lk fm fv n lt k) k ((lk k) ||| (admS lm la fm fv k (arrS lw lk k 6) n))))), (aL4, .inl (cI, 6, .inl la)), (aL5, .inl (cI, 6, .inl lk)), (aB, .inr (0, [.int (nI n), .ref aB0, .ref aB1, .ref aB2, .ref aB3, .ref aB4, .ref aB5])), (aB0, .inl (cI, 20, .inl fm)), (aB4, .inl (cI, 20, .inl fv))]) rfl ?_
        refine z_iinc (lv' := [(3, .int (nI (k + 1))), (2, .int 0), (4, .int ((lk k) ||| (admS lm la fm fv k (arrS lw lk k 6) n))), (0, .ref aL), (1, .ref aB)]) (v := nI (k + 1)) K 2 dX1_spread_59 rfl (z_inc1 k) (by decide) rfl ?_
        refine z_goto K 4 dX1_spread_62 (by decide) ?_
        refine z_lv (lv' := [(3, .int (nI (k + 1))), (2, .int 0), (0, .ref aL), (1, .ref aB)]) [0, 1, 3, 4] rfl ?_
        rw [show (z_b (sprC lw lm la lk fm fv n lt (k + 1))) = 0 from (by first | (simp only [sprC_succ, thenS, z_b, c31, c42, Bool.false_eq_true, if_false, if_true, ↓reduceIte]; done) | rfl | simp [sprC_succ, thenS, z_b, c31, c42])] at ihk
        rw [show (sprT lw lm la lk fm fv n lt (k + 1)) = (upd (sprT lw lm la lk fm fv n lt k) k ((lk k) ||| (admS lm la fm fv k (arrS lw lk k 6) n))) from (by first | (simp only [sprC_succ, thenS, z_b, c31, c42, Bool.false_eq_true, if_false, if_true, ↓reduceIte]; done) | rfl | simp [sprC_succ, thenS, z_b, c31, c42])] at ihk
        exact ihk
      · refine z_iconst (v := 1) K dX1_spread_45 (by decide) ?_
        refine z_goto K 50 dX1_spread_46 (by decide) ?_
        refine z_istore_n (lv' := [(2, .int 1), (4, .int ((lk k) ||| (admS lm la fm fv k (arrS lw lk k 6) n))), (3, .int (nI k)), (0, .ref aL), (1, .ref aB)]) K dX1_spread_50 (by decide) rfl ?_
        refine z_aload_n K 3 dX1_spread_51 rfl ?_
        refine z_get (C := RX1) (T := TX1) (N := 7) (ci := 1) K iX1 rfl 0 rfl 3 (by decide) (by decide +kernel) rfl rfl dX1_spread_52 ?_
        refine z_iload_n K 2 dX1_spread_55 rfl ?_
        refine z_iload K 1 dX1_spread_56 rfl ?_
        refine z_iastN K 3 0 k (by omega) (by omega) rfl rfl dX1_spread_58 (z_memA 0 rfl) (ws' := [(aL, .inr (1, [.ref aL0, .ref aL1, .ref aL2, .ref aL3, .ref aL4, .ref aL5, .int hu])), (aL0, .inl (cI, 6, .inl lw)), (aL1, .inl (cI, 6, .inl lm)), (aL3, .inl (cI, 6, .inl (upd (sprT lw lm la lk fm fv n lt k) k ((lk k) ||| (admS lm la fm fv k (arrS lw lk k 6) n))))), (aL4, .inl (cI, 6, .inl la)), (aL5, .inl (cI, 6, .inl lk)), (aB, .inr (0, [.int (nI n), .ref aB0, .ref aB1, .ref aB2, .ref aB3, .ref aB4, .ref aB5])), (aB0, .inl (cI, 20, .inl fm)), (aB4, .inl (cI, 20, .inl fv))]) rfl ?_
        refine z_iinc (lv' := [(3, .int (nI (k + 1))), (2, .int 1), (4, .int ((lk k) ||| (admS lm la fm fv k (arrS lw lk k 6) n))), (0, .ref aL), (1, .ref aB)]) (v := nI (k + 1)) K 2 dX1_spread_59 rfl (z_inc1 k) (by decide) rfl ?_
        refine z_goto K 4 dX1_spread_62 (by decide) ?_
        refine z_lv (lv' := [(3, .int (nI (k + 1))), (2, .int 1), (0, .ref aL), (1, .ref aB)]) [0, 1, 3, 4] rfl ?_
        rw [show (z_b (sprC lw lm la lk fm fv n lt (k + 1))) = 1 from (by first | (simp only [sprC_succ, thenS, z_b, c31, c42, Bool.false_eq_true, if_false, if_true, ↓reduceIte]; done) | rfl | simp [sprC_succ, thenS, z_b, c31, c42])] at ihk
        rw [show (sprT lw lm la lk fm fv n lt (k + 1)) = (upd (sprT lw lm la lk fm fv n lt k) k ((lk k) ||| (admS lm la fm fv k (arrS lw lk k 6) n))) from (by first | (simp only [sprC_succ, thenS, z_b, c31, c42, Bool.false_eq_true, if_false, if_true, ↓reduceIte]; done) | rfl | simp [sprC_succ, thenS, z_b, c31, c42])] at ihk
        exact ihk

set_option maxRecDepth 100000 in
set_option maxHeartbeats 4000000 in
theorem m_X1_live (l : Launch) (G : Nat → Prop) (D : va_G) (cI cZ cQ cW : ClassId) (aL : Nat) (aB : Nat) (q : Nat) (aL0 : Nat) (aL1 : Nat) (aL2 : Nat) (aL3 : Nat) (aL4 : Nat) (aL5 : Nat) (hu : Int32) (lw : Nat → Int32) (lm : Nat → Int32) (lb : Nat → Int32) (lt : Nat → Int32) (la : Nat → Int32) (lk : Nat → Int32) (n : Nat) (aB0 : Nat) (aB1 : Nat) (aB2 : Nat) (aB3 : Nat) (aB4 : Nat) (aB5 : Nat) (fm : Nat → Int32) (fb : Nat → Int32) (fv : Nat → Int32) (hn : n ≤ 20) (hq : q ≤ 40) : z_M l yX1_live wsX1_live { frames := 3, cells := 0, slots := 0, locals := 71 } G D [(cI, .int), (cZ, .boolean), (cQ, .array .int), (cW, .array .boolean)] [.ref aL, .ref aB, .int (nI q)] ([(aL, .inr (1, [.ref aL0, .ref aL1, .ref aL2, .ref aL3, .ref aL4, .ref aL5, .int hu])), (aL0, .inl (cI, 6, .inl lw)), (aL1, .inl (cI, 6, .inl lm)), (aL2, .inl (cI, 6, .inl lb)), (aL3, .inl (cI, 6, .inl lt)), (aL4, .inl (cI, 6, .inl la)), (aL5, .inl (cI, 6, .inl lk)), (aB, .inr (0, [.int (nI n), .ref aB0, .ref aB1, .ref aB2, .ref aB3, .ref aB4, .ref aB5])), (aB0, .inl (cI, 20, .inl fm)), (aB1, .inl (cI, 20, .inl fb)), (aB4, .inl (cI, 20, .inl fv))]) none [(aL, .inr (1, [.ref aL0, .ref aL1, .ref aL2, .ref aL3, .ref aL4, .ref aL5, .int ((livS lw lm (alS lm lb fm fb n la 6) fm fv n lt lk hu q).2.2.1)])), (aL3, .inl (cI, 6, .inl ((livS lw lm (alS lm lb fm fb n la 6) fm fv n lt lk hu q).1))), (aL4, .inl (cI, 6, .inl (alS lm lb fm fb n la 6))), (aL5, .inl (cI, 6, .inl ((livS lw lm (alS lm lb fm fb n la 6) fm fv n lt lk hu q).2.1)))] 0 0 := by
  have iX1 : ∀ w ∈ u_ws RX1 TX1 7, w ∈ wsX1_live := fun w h => List.mem_cons_of_mem _ (List.mem_append_left _ (List.mem_append_right _ h))
  have iX0 : ∀ w ∈ u_ws RX0 TX0 7, w ∈ wsX1_live := fun w h => List.mem_cons_of_mem _ (List.mem_append_right _ h)
  refine z_ofW (cc := cX1_live) (nL := 5) (ret := none) (by decide) rfl (Nat.le_of_ble_eq_true rfl) [0, 4, 5, 6] rfl (lv0 := [(0, .ref aL), (1, .ref aB), (2, .int (nI q))]) rfl ?_
  intro p e s m args below meth c K
  refine z_iconst (v := 0) K dX1_live_0 (by decide) ?_
  refine z_istore_n (lv' := [(3, .int 0), (0, .ref aL), (1, .ref aB), (2, .int (nI q))]) K dX1_live_1 (by decide) rfl ?_
  refine z_loop (wsf := fun k => [(aL, .inr (1, [.ref aL0, .ref aL1, .ref aL2, .ref aL3, .ref aL4, .ref aL5, .int hu])), (aL0, .inl (cI, 6, .inl lw)), (aL1, .inl (cI, 6, .inl lm)), (aL2, .inl (cI, 6, .inl lb)), (aL3, .inl (cI, 6, .inl lt)), (aL4, .inl (cI, 6, .inl (alS lm lb fm fb n la k))), (aL5, .inl (cI, 6, .inl lk)), (aB, .inr (0, [.int (nI n), .ref aB0, .ref aB1, .ref aB2, .ref aB3, .ref aB4, .ref aB5])), (aB0, .inl (cI, 20, .inl fm)), (aB1, .inl (cI, 20, .inl fb)), (aB4, .inl (cI, 20, .inl fv))]) (lvf := fun k => [(3, .int (nI k)), (0, .ref aL), (1, .ref aB), (2, .int (nI q))]) 6 rfl rfl ?_ (fun k hk ihk => ?_)
  · refine z_iload_n K 0 dX1_live_2 rfl ?_
    refine z_bipush (v := 6) K dX1_live_3 (by decide) ?_
    refine z_cmpN K 26 6 6 dX1_live_5 (by decide) rfl rfl (by omega) (by omega) (fun _ => ?_) (fun h => absurd h (by omega))
    refine z_iconst (v := 1) K dX1_live_26 (by decide) ?_
    refine z_istore_n (lv' := [(3, .int 1), (0, .ref aL), (1, .ref aB), (2, .int (nI q))]) K dX1_live_27 (by decide) rfl ?_
    refine z_iconst (v := 0) K dX1_live_28 (by decide) ?_
    refine z_istore (lv' := [(4, .int 0), (3, .int 1), (0, .ref aL), (1, .ref aB), (2, .int (nI q))]) K dX1_live_29 (by decide) rfl ?_
    refine z_loop (wsf := fun k => [(aL, .inr (1, [.ref aL0, .ref aL1, .ref aL2, .ref aL3, .ref aL4, .ref aL5, .int ((livS lw lm (alS lm lb fm fb n la 6) fm fv n lt lk hu k).2.2.1)])), (aL0, .inl (cI, 6, .inl lw)), (aL1, .inl (cI, 6, .inl lm)), (aL2, .inl (cI, 6, .inl lb)), (aL3, .inl (cI, 6, .inl ((livS lw lm (alS lm lb fm fb n la 6) fm fv n lt lk hu k).1))), (aL4, .inl (cI, 6, .inl (alS lm lb fm fb n la 6))), (aL5, .inl (cI, 6, .inl ((livS lw lm (alS lm lb fm fb n la 6) fm fv n lt lk hu k).2.1))), (aB, .inr (0, [.int (nI n), .ref aB0, .ref aB1, .ref aB2, .ref aB3, .ref aB4, .ref aB5])), (aB0, .inl (cI, 20, .inl fm)), (aB1, .inl (cI, 20, .inl fb)), (aB4, .inl (cI, 20, .inl fv))]) (lvf := fun k => [(4, .int (nI k)), (3, .int (z_b (livS lw lm (alS lm lb fm fb n la 6) fm fv n lt lk hu k).2.2.2)), (0, .ref aL), (1, .ref aB), (2, .int (nI q))]) q rfl rfl ?_ (fun k hk ihk => ?_)
    · refine z_iload K 0 dX1_live_31 rfl ?_
      refine z_iload_n K 4 dX1_live_33 rfl ?_
      refine z_cmpN K 57 q q dX1_live_34 (by decide) rfl rfl (by omega) (by omega) (fun _ => ?_) (fun h => absurd h (by omega))
      exact z_vret K dX1_live_57 [0, 4, 5, 6] rfl (by decide) (by decide)
    · refine z_iload K 0 dX1_live_31 rfl ?_
      refine z_iload_n K 4 dX1_live_33 rfl ?_
      refine z_cmpN K 57 k q dX1_live_34 (by decide) rfl rfl (by omega) (by omega) (fun h => absurd h (by omega)) (fun _ => ?_)
      refine z_iload_n K 1 dX1_live_37 rfl ?_
      refine z_if_eqB K 57 dX1_live_38 (by decide) (fun c38 => ?_) (fun c38 => ?_)
      · rw [show ((livS lw lm (alS lm lb fm fb n la 6) fm fv n lt lk hu k).2.2.1) = ((livS lw lm (alS lm lb fm fb n la 6) fm fv n lt lk hu q).2.2.1) from (by rw [livS_stop (q := q) c38 (by omega)])]
        rw [show ((livS lw lm (alS lm lb fm fb n la 6) fm fv n lt lk hu k).2.1) = ((livS lw lm (alS lm lb fm fb n la 6) fm fv n lt lk hu q).2.1) from (by rw [livS_stop (q := q) c38 (by omega)])]
        rw [show ((livS lw lm (alS lm lb fm fb n la 6) fm fv n lt lk hu k).1) = ((livS lw lm (alS lm lb fm fb n la 6) fm fv n lt lk hu q).1) from (by rw [livS_stop (q := q) c38 (by omega)])]
        exact z_vret K dX1_live_57 [0, 4, 5, 6] rfl (by decide) (by decide)
      · refine z_aload_n K 2 dX1_live_41 rfl ?_
        refine z_callV (ws' := [(aL, .inr (1, [.ref aL0, .ref aL1, .ref aL2, .ref aL3, .ref aL4, .ref aL5, .int (hushH (alS lm lb fm fb n la 6) ((livS lw lm (alS lm lb fm fb n la 6) fm fv n lt lk hu k).1) ((livS lw lm (alS lm lb fm fb n la 6) fm fv n lt lk hu k).2.2.1) 6)])), (aL0, .inl (cI, 6, .inl lw)), (aL1, .inl (cI, 6, .inl lm)), (aL2, .inl (cI, 6, .inl lb)), (aL3, .inl (cI, 6, .inl ((livS lw lm (alS lm lb fm fb n la 6) fm fv n lt lk hu k).1))), (aL4, .inl (cI, 6, .inl (alS lm lb fm fb n la 6))), (aL5, .inl (cI, 6, .inl (hushK (alS lm lb fm fb n la 6) ((livS lw lm (alS lm lb fm fb n la 6) fm fv n lt lk hu k).1) ((livS lw lm (alS lm lb fm fb n la 6) fm fv n lt lk hu k).2.1) 6))), (aB, .inr (0, [.int (nI n), .ref aB0, .ref aB1, .ref aB2, .ref aB3, .ref aB4, .ref aB5])), (aB0, .inl (cI, 20, .inl fm)), (aB1, .inl (cI, 20, .inl fb)), (aB4, .inl (cI, 20, .inl fv))]) (st' := []) (rest := []) (C := RX1) (T := TX1) (N := 7) K (m_X1_hush l _ D cI cZ cQ cW aL aL0 aL1 aL2 aL3 aL4 aL5 ((livS lw lm (alS lm lb fm fb n la 6) fm fv n lt lk hu k).2.2.1) ((livS lw lm (alS lm lb fm fb n la 6) fm fv n lt lk hu k).1) (alS lm lb fm fb n la 6) ((livS lw lm (alS lm lb fm fb n la 6) fm fv n lt lk hu k).2.1) ) gX1_live_X1_hush rfl 0 1 (by decide +kernel) rfl dX1_live_42 [0, 4, 5, 6] 0 [0, 6] [0, 3] rfl rfl rfl ⟨by decide, by decide⟩ ⟨by decide, by decide⟩ rfl rfl rfl rfl rfl (Nat.le_of_ble_eq_true rfl) rfl rfl rfl rfl ?_
        refine z_aload_n K 2 dX1_live_45 rfl ?_
        refine z_aload_n K 3 dX1_live_46 rfl ?_
        refine z_callV (ws' := [(aL, .inr (1, [.ref aL0, .ref aL1, .ref aL2, .ref aL3, .ref aL4, .ref aL5, .int (hushH (alS lm lb fm fb n la 6) ((livS lw lm (alS lm lb fm fb n la 6) fm fv n lt lk hu k).1) ((livS lw lm (alS lm lb fm fb n la 6) fm fv n lt lk hu k).2.2.1) 6)])), (aL0, .inl (cI, 6, .inl lw)), (aL1, .inl (cI, 6, .inl lm)), (aL2, .inl (cI, 6, .inl lb)), (aL3, .inl (cI, 6, .inl (sprT lw lm (alS lm lb fm fb n la 6) (hushK (alS lm lb fm fb n la 6) ((livS lw lm (alS lm lb fm fb n la 6) fm fv n lt lk hu k).1) ((livS lw lm (alS lm lb fm fb n la 6) fm fv n lt lk hu k).2.1) 6) fm fv n ((livS lw lm (alS lm lb fm fb n la 6) fm fv n lt lk hu k).1) 6))), (aL4, .inl (cI, 6, .inl (alS lm lb fm fb n la 6))), (aL5, .inl (cI, 6, .inl (hushK (alS lm lb fm fb n la 6) ((livS lw lm (alS lm lb fm fb n la 6) fm fv n lt lk hu k).1) ((livS lw lm (alS lm lb fm fb n la 6) fm fv n lt lk hu k).2.1) 6))), (aB, .inr (0, [.int (nI n), .ref aB0, .ref aB1, .ref aB2, .ref aB3, .ref aB4, .ref aB5])), (aB0, .inl (cI, 20, .inl fm)), (aB1, .inl (cI, 20, .inl fb)), (aB4, .inl (cI, 20, .inl fv))]) (st' := [.int (z_b (sprC lw lm (alS lm lb fm fb n la 6) (hushK (alS lm lb fm fb n la 6) ((livS lw lm (alS lm lb fm fb n la 6) fm fv n lt lk hu k).1) ((livS lw lm (alS lm lb fm fb n la 6) fm fv n lt lk hu k).2.1) 6) fm fv n ((livS lw lm (alS lm lb fm fb n la 6) fm fv n lt lk hu k).1) 6))]) (rest := []) (C := RX1) (T := TX1) (N := 7) K (m_X1_spread l _ D cI cZ cQ cW aL aB aL0 aL1 aL2 aL3 aL4 aL5 (hushH (alS lm lb fm fb n la 6) ((livS lw lm (alS lm lb fm fb n la 6) fm fv n lt lk hu k).1) ((livS lw lm (alS lm lb fm fb n la 6) fm fv n lt lk hu k).2.2.1) 6) lw lm ((livS lw lm (alS lm lb fm fb n la 6) fm fv n lt lk hu k).1) (alS lm lb fm fb n la 6) (hushK (alS lm lb fm fb n la 6) ((livS lw lm (alS lm lb fm fb n la 6) fm fv n lt lk hu k).1) ((livS lw lm (alS lm lb fm fb n la 6) fm fv n lt lk hu k).2.1) 6) n aB0 aB1 aB2 aB3 aB4 aB5 fm fv (by omega)) gX1_live_X1_spread rfl 1 1 (by decide +kernel) rfl dX1_live_47 [0, 1, 2, 4, 5, 6, 7, 8, 10] 0 [4] [1] rfl rfl rfl ⟨by decide, by decide⟩ ⟨by decide, by decide⟩ rfl rfl rfl rfl rfl (Nat.le_of_ble_eq_true rfl) rfl rfl rfl rfl ?_
        refine z_istore_n (lv' := [(3, .int (z_b (sprC lw lm (alS lm lb fm fb n la 6) (hushK (alS lm lb fm fb n la 6) ((livS lw lm (alS lm lb fm fb n la 6) fm fv n lt lk hu k).1) ((livS lw lm (alS lm lb fm fb n la 6) fm fv n lt lk hu k).2.1) 6) fm fv n ((livS lw lm (alS lm lb fm fb n la 6) fm fv n lt lk hu k).1) 6))), (4, .int (nI k)), (0, .ref aL), (1, .ref aB), (2, .int (nI q))]) K dX1_live_50 (by decide) rfl ?_
        refine z_iinc (lv' := [(4, .int (nI (k + 1))), (3, .int (z_b (sprC lw lm (alS lm lb fm fb n la 6) (hushK (alS lm lb fm fb n la 6) ((livS lw lm (alS lm lb fm fb n la 6) fm fv n lt lk hu k).1) ((livS lw lm (alS lm lb fm fb n la 6) fm fv n lt lk hu k).2.1) 6) fm fv n ((livS lw lm (alS lm lb fm fb n la 6) fm fv n lt lk hu k).1) 6))), (0, .ref aL), (1, .ref aB), (2, .int (nI q))]) (v := nI (k + 1)) K 1 dX1_live_51 rfl (z_inc1 k) (by decide) rfl ?_
        refine z_goto K 31 dX1_live_54 (by decide) ?_
        rw [show (z_b (livS lw lm (alS lm lb fm fb n la 6) fm fv n lt lk hu (k + 1)).2.2.2) = (z_b (sprC lw lm (alS lm lb fm fb n la 6) (hushK (alS lm lb fm fb n la 6) ((livS lw lm (alS lm lb fm fb n la 6) fm fv n lt lk hu k).1) ((livS lw lm (alS lm lb fm fb n la 6) fm fv n lt lk hu k).2.1) 6) fm fv n ((livS lw lm (alS lm lb fm fb n la 6) fm fv n lt lk hu k).1) 6)) from (by first | (simp only [livS_succ, stepS, c38, Bool.false_eq_true, if_false, if_true, ↓reduceIte]; done) | rfl | simp [livS_succ, stepS, c38])] at ihk
        rw [show ((livS lw lm (alS lm lb fm fb n la 6) fm fv n lt lk hu (k + 1)).2.2.1) = (hushH (alS lm lb fm fb n la 6) ((livS lw lm (alS lm lb fm fb n la 6) fm fv n lt lk hu k).1) ((livS lw lm (alS lm lb fm fb n la 6) fm fv n lt lk hu k).2.2.1) 6) from (by first | (simp only [livS_succ, stepS, c38, Bool.false_eq_true, if_false, if_true, ↓reduceIte]; done) | rfl | simp [livS_succ, stepS, c38])] at ihk
        rw [show ((livS lw lm (alS lm lb fm fb n la 6) fm fv n lt lk hu (k + 1)).1) = (sprT lw lm (alS lm lb fm fb n la 6) (hushK (alS lm lb fm fb n la 6) ((livS lw lm (alS lm lb fm fb n la 6) fm fv n lt lk hu k).1) ((livS lw lm (alS lm lb fm fb n la 6) fm fv n lt lk hu k).2.1) 6) fm fv n ((livS lw lm (alS lm lb fm fb n la 6) fm fv n lt lk hu k).1) 6) from (by first | (simp only [livS_succ, stepS, c38, Bool.false_eq_true, if_false, if_true, ↓reduceIte]; done) | rfl | simp [livS_succ, stepS, c38])] at ihk
        rw [show ((livS lw lm (alS lm lb fm fb n la 6) fm fv n lt lk hu (k + 1)).2.1) = (hushK (alS lm lb fm fb n la 6) ((livS lw lm (alS lm lb fm fb n la 6) fm fv n lt lk hu k).1) ((livS lw lm (alS lm lb fm fb n la 6) fm fv n lt lk hu k).2.1) 6) from (by first | (simp only [livS_succ, stepS, c38, Bool.false_eq_true, if_false, if_true, ↓reduceIte]; done) | rfl | simp [livS_succ, stepS, c38])] at ihk
        exact ihk
  · refine z_iload_n K 0 dX1_live_2 rfl ?_
    refine z_bipush (v := 6) K dX1_live_3 (by decide) ?_
    refine z_cmpN K 26 k 6 dX1_live_5 (by decide) rfl rfl (by omega) (by omega) (fun h => absurd h (by omega)) (fun _ => ?_)
    refine z_aload_n K 1 dX1_live_8 rfl ?_
    refine z_get (C := RX1) (T := TX1) (N := 7) (ci := 1) K iX1 rfl 0 rfl 4 (by decide) (by decide +kernel) rfl rfl dX1_live_9 ?_
    refine z_iload_n K 0 dX1_live_12 rfl ?_
    refine z_aload_n K 1 dX1_live_13 rfl ?_
    refine z_aload_n K 2 dX1_live_14 rfl ?_
    refine z_iload_n K 0 dX1_live_15 rfl ?_
    refine z_callV (ws' := [(aL, .inr (1, [.ref aL0, .ref aL1, .ref aL2, .ref aL3, .ref aL4, .ref aL5, .int hu])), (aL0, .inl (cI, 6, .inl lw)), (aL1, .inl (cI, 6, .inl lm)), (aL2, .inl (cI, 6, .inl lb)), (aL3, .inl (cI, 6, .inl lt)), (aL4, .inl (cI, 6, .inl (alS lm lb fm fb n la k))), (aL5, .inl (cI, 6, .inl lk)), (aB, .inr (0, [.int (nI n), .ref aB0, .ref aB1, .ref aB2, .ref aB3, .ref aB4, .ref aB5])), (aB0, .inl (cI, 20, .inl fm)), (aB1, .inl (cI, 20, .inl fb)), (aB4, .inl (cI, 20, .inl fv))]) (st' := [.int (welS lm lb fm fb k n), .int (nI k), .ref aL4]) (rest := [.int (nI k), .ref aL4]) (C := RX1) (T := TX1) (N := 7) K (m_X1_welcome l _ D cI cZ cQ cW aL aB k aL0 aL1 aL2 aL3 aL4 aL5 hu lm lb n aB0 aB1 aB2 aB3 aB4 aB5 fm fb (by omega) (by omega)) gX1_live_X1_welcome rfl 2 1 (by decide +kernel) rfl dX1_live_16 [0, 2, 3, 7, 8, 9] 0 [] [] rfl rfl rfl ⟨by decide, by decide⟩ ⟨by decide, by decide⟩ rfl rfl rfl rfl rfl (Nat.le_of_ble_eq_true rfl) rfl rfl rfl rfl ?_
    refine z_iastN K 5 0 k (by omega) (by omega) rfl rfl dX1_live_19 (z_memA 2 rfl) (ws' := [(aL, .inr (1, [.ref aL0, .ref aL1, .ref aL2, .ref aL3, .ref aL4, .ref aL5, .int hu])), (aL0, .inl (cI, 6, .inl lw)), (aL1, .inl (cI, 6, .inl lm)), (aL2, .inl (cI, 6, .inl lb)), (aL3, .inl (cI, 6, .inl lt)), (aL4, .inl (cI, 6, .inl (upd (alS lm lb fm fb n la k) k (welS lm lb fm fb k n)))), (aL5, .inl (cI, 6, .inl lk)), (aB, .inr (0, [.int (nI n), .ref aB0, .ref aB1, .ref aB2, .ref aB3, .ref aB4, .ref aB5])), (aB0, .inl (cI, 20, .inl fm)), (aB1, .inl (cI, 20, .inl fb)), (aB4, .inl (cI, 20, .inl fv))]) rfl ?_
    refine z_iinc (lv' := [(3, .int (nI (k + 1))), (0, .ref aL), (1, .ref aB), (2, .int (nI q))]) (v := nI (k + 1)) K 0 dX1_live_20 rfl (z_inc1 k) (by decide) rfl ?_
    refine z_goto K 2 dX1_live_23 (by decide) ?_
    rw [show (alS lm lb fm fb n la (k + 1)) = (upd (alS lm lb fm fb n la k) k (welS lm lb fm fb k n)) from (by first | (simp only [livS_succ, stepS, Bool.false_eq_true, if_false, if_true, ↓reduceIte]; done) | rfl | simp [livS_succ, stepS])] at ihk
    exact ihk
end
section
set_option maxRecDepth 100000 in
set_option maxHeartbeats 4000000 in
theorem m_X2_needFable (l : Launch) (G : Nat → Prop) (D : va_G) (cI cZ cQ cW : ClassId) (aX : Nat) (f : Nat) (aB : Nat) (aL : Nat) (aT : Nat) (se : Int32) (n : Nat) (aB0 : Nat) (aB1 : Nat) (aB2 : Nat) (aB3 : Nat) (aB4 : Nat) (aB5 : Nat) (hn : n ≤ 20) (hf : f < n) : z_M l yX2_needFable wsX2_needFable { frames := 0, cells := 0, slots := 0, locals := 0 } G D [(cI, .int), (cZ, .boolean), (cQ, .array .int), (cW, .array .boolean)] [.ref aX, .int (nI f)] ([(aX, .inr (2, [.ref aB, .ref aL, .ref aT, .int se])), (aB, .inr (0, [.int (nI n), .ref aB0, .ref aB1, .ref aB2, .ref aB3, .ref aB4, .ref aB5]))]) none [] 0 0 := by
  have iX2 : ∀ w ∈ u_ws RX2 TX2 4, w ∈ wsX2_needFable := fun w h => List.mem_cons_of_mem _ (List.mem_append_left _ (List.mem_append_left _ (List.mem_append_right _ h)))
  have iX0 : ∀ w ∈ u_ws RX0 TX0 7, w ∈ wsX2_needFable := fun w h => List.mem_cons_of_mem _ (List.mem_append_left _ (List.mem_append_right _ h))
  refine z_ofW (cc := cX2_needFable) (nL := 2) (ret := none) (by decide) rfl (Nat.le_of_ble_eq_true rfl) [] rfl (lv0 := [(0, .ref aX), (1, .int (nI f))]) rfl ?_
  intro p e s m args below meth c K
  refine z_iload_n K 1 dX2_needFable_0 rfl ?_
  refine z_if_lt K 15 dX2_needFable_1 (by decide) (fun c1 => ?_) (fun c1 => ?_)
  · exact absurd c1 (nI_pos (by omega))
  · refine z_iload_n K 1 dX2_needFable_4 rfl ?_
    refine z_aload_n K 0 dX2_needFable_5 rfl ?_
    refine z_get (C := RX2) (T := TX2) (N := 4) (ci := 2) K iX2 rfl 0 rfl 0 (by decide) (by decide +kernel) rfl rfl dX2_needFable_6 ?_
    refine z_get (C := RX0) (T := TX0) (N := 7) (ci := 0) K iX0 rfl 1 rfl 0 (by decide) (by decide +kernel) rfl rfl dX2_needFable_9 ?_
    refine z_icmp_lt K 25 dX2_needFable_12 (by decide) (fun c12 => ?_) (fun c12 => ?_)
    · exact z_vret K dX2_needFable_25 [] rfl (by decide) (by decide)
    · exact absurd ((nI_ltI (a := f) (b := n) (by omega) (by omega)).mpr hf) c12

set_option maxRecDepth 100000 in
set_option maxHeartbeats 4000000 in
theorem m_X2_needFreePage (l : Launch) (G : Nat → Prop) (D : va_G) (cI cZ cQ cW : ClassId) (aX : Nat) (aB : Nat) (aL : Nat) (aT : Nat) (se : Int32) (n : Nat) (aB0 : Nat) (aB1 : Nat) (aB2 : Nat) (aB3 : Nat) (aB4 : Nat) (aB5 : Nat) (hn : n ≤ 20) (hn2 : n < 20) : z_M l yX2_needFreePage wsX2_needFreePage { frames := 0, cells := 0, slots := 0, locals := 0 } G D [(cI, .int), (cZ, .boolean), (cQ, .array .int), (cW, .array .boolean)] [.ref aX] ([(aX, .inr (2, [.ref aB, .ref aL, .ref aT, .int se])), (aB, .inr (0, [.int (nI n), .ref aB0, .ref aB1, .ref aB2, .ref aB3, .ref aB4, .ref aB5]))]) none [] 0 0 := by
  have iX2 : ∀ w ∈ u_ws RX2 TX2 4, w ∈ wsX2_needFreePage := fun w h => List.mem_cons_of_mem _ (List.mem_append_left _ (List.mem_append_left _ (List.mem_append_right _ h)))
  have iX0 : ∀ w ∈ u_ws RX0 TX0 7, w ∈ wsX2_needFreePage := fun w h => List.mem_cons_of_mem _ (List.mem_append_left _ (List.mem_append_right _ h))
  refine z_ofW (cc := cX2_needFreePage) (nL := 1) (ret := none) (by decide) rfl (Nat.le_of_ble_eq_true rfl) [] rfl (lv0 := [(0, .ref aX)]) rfl ?_
  intro p e s m args below meth c K
  refine z_aload_n K 0 dX2_needFreePage_0 rfl ?_
  refine z_get (C := RX2) (T := TX2) (N := 4) (ci := 2) K iX2 rfl 0 rfl 0 (by decide) (by decide +kernel) rfl rfl dX2_needFreePage_1 ?_
  refine z_get (C := RX0) (T := TX0) (N := 7) (ci := 0) K iX0 rfl 1 rfl 0 (by decide) (by decide +kernel) rfl rfl dX2_needFreePage_4 ?_
  refine z_bipush (v := 20) K dX2_needFreePage_7 (by decide) ?_
  refine z_icmp_lt K 22 dX2_needFreePage_9 (by decide) (fun c9 => ?_) (fun c9 => ?_)
  · exact z_vret K dX2_needFreePage_22 [] rfl (by decide) (by decide)
  · exact absurd ((nI_ltI (a := n) (b := 20) (by omega) (by omega)).mpr hn2) c9

set_option maxRecDepth 100000 in
set_option maxHeartbeats 4000000 in
theorem m_X2_needMoral (l : Launch) (G : Nat → Prop) (D : va_G) (cI cZ cQ cW : ClassId) (mo : Nat) (hm : mo < 10) : z_M l yX2_needMoral wsX2_needMoral { frames := 0, cells := 0, slots := 0, locals := 0 } G D [(cI, .int), (cZ, .boolean), (cQ, .array .int), (cW, .array .boolean)] [.int (nI mo)] ([]) none [] 0 0 := by
  refine z_ofW (cc := cX2_needMoral) (nL := 1) (ret := none) (by decide) rfl (Nat.le_of_ble_eq_true rfl) [] rfl (lv0 := [(0, .int (nI mo))]) rfl ?_
  intro p e s m args below meth c K
  refine z_iload_n K 0 dX2_needMoral_0 rfl ?_
  refine z_if_lt K 10 dX2_needMoral_1 (by decide) (fun c1 => ?_) (fun c1 => ?_)
  · exact absurd c1 (nI_pos (by omega))
  · refine z_iload_n K 0 dX2_needMoral_4 rfl ?_
    refine z_bipush (v := 10) K dX2_needMoral_5 (by decide) ?_
    refine z_icmp_lt K 20 dX2_needMoral_7 (by decide) (fun c7 => ?_) (fun c7 => ?_)
    · exact z_vret K dX2_needMoral_20 [] rfl (by decide) (by decide)
    · exact absurd ((nI_ltI (a := mo) (b := 10) (by omega) (by omega)).mpr hm) c7

set_option maxRecDepth 100000 in
set_option maxHeartbeats 4000000 in
theorem m_X2_needBeast (l : Launch) (G : Nat → Prop) (D : va_G) (cI cZ cQ cW : ClassId) (b : Nat) (hb : b < 12) : z_M l yX2_needBeast wsX2_needBeast { frames := 0, cells := 0, slots := 0, locals := 0 } G D [(cI, .int), (cZ, .boolean), (cQ, .array .int), (cW, .array .boolean)] [.int (nI b)] ([]) none [] 0 0 := by
  refine z_ofW (cc := cX2_needBeast) (nL := 1) (ret := none) (by decide) rfl (Nat.le_of_ble_eq_true rfl) [] rfl (lv0 := [(0, .int (nI b))]) rfl ?_
  intro p e s m args below meth c K
  refine z_iload_n K 0 dX2_needBeast_0 rfl ?_
  refine z_if_lt K 10 dX2_needBeast_1 (by decide) (fun c1 => ?_) (fun c1 => ?_)
  · exact absurd c1 (nI_pos (by omega))
  · refine z_iload_n K 0 dX2_needBeast_4 rfl ?_
    refine z_bipush (v := 12) K dX2_needBeast_5 (by decide) ?_
    refine z_icmp_lt K 20 dX2_needBeast_7 (by decide) (fun c7 => ?_) (fun c7 => ?_)
    · exact z_vret K dX2_needBeast_20 [] rfl (by decide) (by decide)
    · exact absurd ((nI_ltI (a := b) (b := 12) (by omega) (by omega)).mpr hb) c7

set_option maxRecDepth 100000 in
set_option maxHeartbeats 4000000 in
theorem m_X2_needValley (l : Launch) (G : Nat → Prop) (D : va_G) (cI cZ cQ cW : ClassId) (v : Nat) (hv : v < 6) : z_M l yX2_needValley wsX2_needValley { frames := 0, cells := 0, slots := 0, locals := 0 } G D [(cI, .int), (cZ, .boolean), (cQ, .array .int), (cW, .array .boolean)] [.int (nI v)] ([]) none [] 0 0 := by
  refine z_ofW (cc := cX2_needValley) (nL := 1) (ret := none) (by decide) rfl (Nat.le_of_ble_eq_true rfl) [] rfl (lv0 := [(0, .int (nI v))]) rfl ?_
  intro p e s m args below meth c K
  refine z_iload_n K 0 dX2_needValley_0 rfl ?_
  refine z_if_lt K 10 dX2_needValley_1 (by decide) (fun c1 => ?_) (fun c1 => ?_)
  · exact absurd c1 (nI_pos (by omega))
  · refine z_iload_n K 0 dX2_needValley_4 rfl ?_
    refine z_bipush (v := 6) K dX2_needValley_5 (by decide) ?_
    refine z_icmp_lt K 20 dX2_needValley_7 (by decide) (fun c7 => ?_) (fun c7 => ?_)
    · exact z_vret K dX2_needValley_20 [] rfl (by decide) (by decide)
    · exact absurd ((nI_ltI (a := v) (b := 6) (by omega) (by omega)).mpr hv) c7

set_option maxRecDepth 100000 in
set_option maxHeartbeats 4000000 in
theorem m_X2_needSeasons (l : Launch) (G : Nat → Prop) (D : va_G) (cI cZ cQ cW : ClassId) (q : Nat) (hq1 : 1 ≤ q) (hq : q ≤ 40) : z_M l yX2_needSeasons wsX2_needSeasons { frames := 0, cells := 0, slots := 0, locals := 0 } G D [(cI, .int), (cZ, .boolean), (cQ, .array .int), (cW, .array .boolean)] [.int (nI q), .int 40] ([]) none [] 0 0 := by
  refine z_ofW (cc := cX2_needSeasons) (nL := 2) (ret := none) (by decide) rfl (Nat.le_of_ble_eq_true rfl) [] rfl (lv0 := [(0, .int (nI q)), (1, .int 40)]) rfl ?_
  intro p e s m args below meth c K
  refine z_iload_n K 0 dX2_needSeasons_0 rfl ?_
  refine z_iconst (v := 1) K dX2_needSeasons_1 (by decide) ?_
  refine z_icmp_lt K 10 dX2_needSeasons_2 (by decide) (fun c2 => ?_) (fun c2 => ?_)
  · exact absurd ((nI_ltI (a := q) (b := 1) (by omega) (by omega)).mp c2) (by omega)
  · refine z_iload_n K 0 dX2_needSeasons_5 rfl ?_
    refine z_iload_n K 1 dX2_needSeasons_6 rfl ?_
    refine z_icmp_le K 20 dX2_needSeasons_7 (by decide) (fun c7 => ?_) (fun c7 => ?_)
    · exact z_vret K dX2_needSeasons_20 [] rfl (by decide) (by decide)
    · exact absurd ((nI_leI (a := q) (b := 40) (by omega) (by omega)).mpr hq) c7

set_option maxRecDepth 100000 in
set_option maxHeartbeats 4000000 in
theorem m_X2_addFable (l : Launch) (G : Nat → Prop) (D : va_G) (cI cZ cQ cW : ClassId) (aX : Nat) (mo : Nat) (b : Nat) (v : Nat) (aB : Nat) (aL : Nat) (aT : Nat) (se : Int32) (n : Nat) (aB0 : Nat) (aB1 : Nat) (aB2 : Nat) (aB3 : Nat) (aB4 : Nat) (aB5 : Nat) (fm : Nat → Int32) (fb : Nat → Int32) (fh : Nat → Int32) (fp : Nat → Int32) (fv : Nat → Int32) (fa : Nat → Int32) (hn : n ≤ 20) (hm : mo < 10) (hb : b < 12) (hv : v < 6) (hn2 : n < 20) : z_M l yX2_addFable wsX2_addFable { frames := 1, cells := 0, slots := 0, locals := 25 } G D [(cI, .int), (cZ, .boolean), (cQ, .array .int), (cW, .array .boolean)] [.ref aX, .int (nI mo), .int (nI b), .int (nI v)] ([(aX, .inr (2, [.ref aB, .ref aL, .ref aT, .int se])), (aB, .inr (0, [.int (nI n), .ref aB0, .ref aB1, .ref aB2, .ref aB3, .ref aB4, .ref aB5])), (aB0, .inl (cI, 20, .inl fm)), (aB1, .inl (cI, 20, .inl fb)), (aB2, .inl (cI, 20, .inl fh)), (aB3, .inl (cI, 20, .inl fp)), (aB4, .inl (cI, 20, .inl fv)), (aB5, .inl (cI, 20, .inl fa))]) (some (.int (nI n))) [(aB, .inr (0, [.int (nI (n + 1)), .ref aB0, .ref aB1, .ref aB2, .ref aB3, .ref aB4, .ref aB5])), (aB0, .inl (cI, 20, .inl (upd fm n (nI mo)))), (aB1, .inl (cI, 20, .inl (upd fb n ((1 : Int32) <<< (nI b &&& 31))))), (aB2, .inl (cI, 20, .inl (upd fh n (nI v)))), (aB3, .inl (cI, 20, .inl (upd fp n (-1)))), (aB4, .inl (cI, 20, .inl (wrV fv n (-1)))), (aB5, .inl (cI, 20, .inl (wrA fa n (-1))))] 0 0 := by
  have iX2 : ∀ w ∈ u_ws RX2 TX2 4, w ∈ wsX2_addFable := fun w h => List.mem_cons_of_mem _ (List.mem_append_left _ (List.mem_append_left _ (List.mem_append_left _ (List.mem_append_right _ h))))
  have iX0 : ∀ w ∈ u_ws RX0 TX0 7, w ∈ wsX2_addFable := fun w h => List.mem_cons_of_mem _ (List.mem_append_left _ (List.mem_append_left _ (List.mem_append_right _ h)))
  refine z_ofW (cc := cX2_addFable) (nL := 4) (ret := (some .int)) (by decide) rfl (Nat.le_of_ble_eq_true rfl) [1, 2, 3, 4, 5, 6, 7] rfl (lv0 := [(0, .ref aX), (1, .int (nI mo)), (2, .int (nI b)), (3, .int (nI v))]) rfl ?_
  intro p e s m args below meth c K
  refine z_iload_n K 1 dX2_addFable_0 rfl ?_
  refine z_callS (ws' := [(aX, .inr (2, [.ref aB, .ref aL, .ref aT, .int se])), (aB, .inr (0, [.int (nI n), .ref aB0, .ref aB1, .ref aB2, .ref aB3, .ref aB4, .ref aB5])), (aB0, .inl (cI, 20, .inl fm)), (aB1, .inl (cI, 20, .inl fb)), (aB2, .inl (cI, 20, .inl fh)), (aB3, .inl (cI, 20, .inl fp)), (aB4, .inl (cI, 20, .inl fv)), (aB5, .inl (cI, 20, .inl fa))]) (st' := []) (rest := []) K (m_X2_needMoral l _ D cI cZ cQ cW mo (by omega)) gX2_addFable_X2_needMoral rfl 1 (by decide +kernel) dX2_addFable_1 [] [] [] rfl rfl rfl ⟨by decide, by decide⟩ ⟨by decide, by decide⟩ rfl rfl rfl rfl (Nat.le_of_ble_eq_true rfl) rfl rfl rfl rfl ?_
  refine z_iload_n K 2 dX2_addFable_4 rfl ?_
  refine z_callS (ws' := [(aX, .inr (2, [.ref aB, .ref aL, .ref aT, .int se])), (aB, .inr (0, [.int (nI n), .ref aB0, .ref aB1, .ref aB2, .ref aB3, .ref aB4, .ref aB5])), (aB0, .inl (cI, 20, .inl fm)), (aB1, .inl (cI, 20, .inl fb)), (aB2, .inl (cI, 20, .inl fh)), (aB3, .inl (cI, 20, .inl fp)), (aB4, .inl (cI, 20, .inl fv)), (aB5, .inl (cI, 20, .inl fa))]) (st' := []) (rest := []) K (m_X2_needBeast l _ D cI cZ cQ cW b (by omega)) gX2_addFable_X2_needBeast rfl 1 (by decide +kernel) dX2_addFable_5 [] [] [] rfl rfl rfl ⟨by decide, by decide⟩ ⟨by decide, by decide⟩ rfl rfl rfl rfl (Nat.le_of_ble_eq_true rfl) rfl rfl rfl rfl ?_
  refine z_iload_n K 3 dX2_addFable_8 rfl ?_
  refine z_callS (ws' := [(aX, .inr (2, [.ref aB, .ref aL, .ref aT, .int se])), (aB, .inr (0, [.int (nI n), .ref aB0, .ref aB1, .ref aB2, .ref aB3, .ref aB4, .ref aB5])), (aB0, .inl (cI, 20, .inl fm)), (aB1, .inl (cI, 20, .inl fb)), (aB2, .inl (cI, 20, .inl fh)), (aB3, .inl (cI, 20, .inl fp)), (aB4, .inl (cI, 20, .inl fv)), (aB5, .inl (cI, 20, .inl fa))]) (st' := []) (rest := []) K (m_X2_needValley l _ D cI cZ cQ cW v (by omega)) gX2_addFable_X2_needValley rfl 1 (by decide +kernel) dX2_addFable_9 [] [] [] rfl rfl rfl ⟨by decide, by decide⟩ ⟨by decide, by decide⟩ rfl rfl rfl rfl (Nat.le_of_ble_eq_true rfl) rfl rfl rfl rfl ?_
  refine z_aload_n K 0 dX2_addFable_12 rfl ?_
  refine z_callV (ws' := [(aX, .inr (2, [.ref aB, .ref aL, .ref aT, .int se])), (aB, .inr (0, [.int (nI n), .ref aB0, .ref aB1, .ref aB2, .ref aB3, .ref aB4, .ref aB5])), (aB0, .inl (cI, 20, .inl fm)), (aB1, .inl (cI, 20, .inl fb)), (aB2, .inl (cI, 20, .inl fh)), (aB3, .inl (cI, 20, .inl fp)), (aB4, .inl (cI, 20, .inl fv)), (aB5, .inl (cI, 20, .inl fa))]) (st' := []) (rest := []) (C := RX2) (T := TX2) (N := 4) K (m_X2_needFreePage l _ D cI cZ cQ cW aX aB aL aT se n aB0 aB1 aB2 aB3 aB4 aB5 (by omega) (by omega)) gX2_addFable_X2_needFreePage rfl 0 2 (by decide +kernel) rfl dX2_addFable_13 [0, 1] 0 [] [] rfl rfl rfl ⟨by decide, by decide⟩ ⟨by decide, by decide⟩ rfl rfl rfl rfl rfl (Nat.le_of_ble_eq_true rfl) rfl rfl rfl rfl ?_
  refine z_aload_n K 0 dX2_addFable_16 rfl ?_
  refine z_get (C := RX2) (T := TX2) (N := 4) (ci := 2) K iX2 rfl 0 rfl 0 (by decide) (by decide +kernel) rfl rfl dX2_addFable_17 ?_
  refine z_iload_n K 1 dX2_addFable_20 rfl ?_
  refine z_iconst (v := 1) K dX2_addFable_21 (by decide) ?_
  refine z_iload_n K 2 dX2_addFable_22 rfl ?_
  refine z_ishl K dX2_addFable_23 ?_
  refine z_iload_n K 3 dX2_addFable_24 rfl ?_
  refine z_iconst (v := (-1)) K dX2_addFable_25 (by decide) ?_
  refine z_callV (ws' := [(aX, .inr (2, [.ref aB, .ref aL, .ref aT, .int se])), (aB, .inr (0, [.int (nI (n + 1)), .ref aB0, .ref aB1, .ref aB2, .ref aB3, .ref aB4, .ref aB5])), (aB0, .inl (cI, 20, .inl (upd fm n (nI mo)))), (aB1, .inl (cI, 20, .inl (upd fb n ((1 : Int32) <<< (nI b &&& 31))))), (aB2, .inl (cI, 20, .inl (upd fh n (nI v)))), (aB3, .inl (cI, 20, .inl (upd fp n (-1)))), (aB4, .inl (cI, 20, .inl (wrV fv n (-1)))), (aB5, .inl (cI, 20, .inl (wrA fa n (-1))))]) (st' := [.int (nI n)]) (rest := []) (C := RX0) (T := TX0) (N := 7) K (m_X0_write l _ D cI cZ cQ cW aB (nI mo) ((1 : Int32) <<< (nI b &&& 31)) (nI v) (-1) n aB0 aB1 aB2 aB3 aB4 aB5 fm fb fh fp fv fa (by omega) (Or.inl rfl)) gX2_addFable_X0_write rfl 4 0 (by decide +kernel) rfl dX2_addFable_26 [1, 2, 3, 4, 5, 6, 7] 1 [1, 2, 3, 4, 5, 6, 7] [0, 1, 2, 3, 4, 5, 6] rfl rfl rfl ⟨by decide, by decide⟩ ⟨by decide, by decide⟩ rfl rfl rfl rfl rfl (Nat.le_of_ble_eq_true rfl) rfl rfl rfl rfl ?_
  exact z_iret K dX2_addFable_29 (rfl) [1, 2, 3, 4, 5, 6, 7] rfl (by decide) (by decide)

set_option maxRecDepth 100000 in
set_option maxHeartbeats 4000000 in
theorem m_X2_addBeast (l : Launch) (G : Nat → Prop) (D : va_G) (cI cZ cQ cW : ClassId) (aX : Nat) (f : Nat) (b : Nat) (aB : Nat) (aL : Nat) (aT : Nat) (se : Int32) (n : Nat) (aB0 : Nat) (aB1 : Nat) (aB2 : Nat) (aB3 : Nat) (aB4 : Nat) (aB5 : Nat) (fb : Nat → Int32) (fv : Nat → Int32) (hn : n ≤ 20) (hf : f < n) (hb : b < 12) (hnb : hs (fb f) (nI b) = false) (hnv : fv f = 0) : z_M l yX2_addBeast wsX2_addBeast { frames := 2, cells := 0, slots := 0, locals := 40 } G D [(cI, .int), (cZ, .boolean), (cQ, .array .int), (cW, .array .boolean)] [.ref aX, .int (nI f), .int (nI b)] ([(aX, .inr (2, [.ref aB, .ref aL, .ref aT, .int se])), (aB, .inr (0, [.int (nI n), .ref aB0, .ref aB1, .ref aB2, .ref aB3, .ref aB4, .ref aB5])), (aB1, .inl (cI, 20, .inl fb)), (aB4, .inl (cI, 20, .inl fv))]) (some (.int (pc (fb f ||| ((1 : Int32) <<< (nI b &&& 31)))))) [(aB1, .inl (cI, 20, .inl (upd fb f (fb f ||| ((1 : Int32) <<< (nI b &&& 31))))))] 0 0 := by
  have iX2 : ∀ w ∈ u_ws RX2 TX2 4, w ∈ wsX2_addBeast := fun w h => List.mem_cons_of_mem _ (List.mem_append_left _ (List.mem_append_left _ (List.mem_append_left _ (List.mem_append_right _ h))))
  have iX0 : ∀ w ∈ u_ws RX0 TX0 7, w ∈ wsX2_addBeast := fun w h => List.mem_cons_of_mem _ (List.mem_append_left _ (List.mem_append_left _ (List.mem_append_right _ h)))
  refine z_ofW (cc := cX2_addBeast) (nL := 3) (ret := (some .int)) (by decide) rfl (Nat.le_of_ble_eq_true rfl) [2] rfl (lv0 := [(0, .ref aX), (1, .int (nI f)), (2, .int (nI b))]) rfl ?_
  intro p e s m args below meth c K
  refine z_aload_n K 0 dX2_addBeast_0 rfl ?_
  refine z_iload_n K 1 dX2_addBeast_1 rfl ?_
  refine z_callV (ws' := [(aX, .inr (2, [.ref aB, .ref aL, .ref aT, .int se])), (aB, .inr (0, [.int (nI n), .ref aB0, .ref aB1, .ref aB2, .ref aB3, .ref aB4, .ref aB5])), (aB1, .inl (cI, 20, .inl fb)), (aB4, .inl (cI, 20, .inl fv))]) (st' := []) (rest := []) (C := RX2) (T := TX2) (N := 4) K (m_X2_needFable l _ D cI cZ cQ cW aX f aB aL aT se n aB0 aB1 aB2 aB3 aB4 aB5 (by omega) (by omega)) gX2_addBeast_X2_needFable rfl 1 2 (by decide +kernel) rfl dX2_addBeast_2 [0, 1] 0 [] [] rfl rfl rfl ⟨by decide, by decide⟩ ⟨by decide, by decide⟩ rfl rfl rfl rfl rfl (Nat.le_of_ble_eq_true rfl) rfl rfl rfl rfl ?_
  refine z_iload_n K 2 dX2_addBeast_5 rfl ?_
  refine z_callS (ws' := [(aX, .inr (2, [.ref aB, .ref aL, .ref aT, .int se])), (aB, .inr (0, [.int (nI n), .ref aB0, .ref aB1, .ref aB2, .ref aB3, .ref aB4, .ref aB5])), (aB1, .inl (cI, 20, .inl fb)), (aB4, .inl (cI, 20, .inl fv))]) (st' := []) (rest := []) K (m_X2_needBeast l _ D cI cZ cQ cW b (by omega)) gX2_addBeast_X2_needBeast rfl 1 (by decide +kernel) dX2_addBeast_6 [] [] [] rfl rfl rfl ⟨by decide, by decide⟩ ⟨by decide, by decide⟩ rfl rfl rfl rfl (Nat.le_of_ble_eq_true rfl) rfl rfl rfl rfl ?_
  refine z_aload_n K 0 dX2_addBeast_9 rfl ?_
  refine z_get (C := RX2) (T := TX2) (N := 4) (ci := 2) K iX2 rfl 0 rfl 0 (by decide) (by decide +kernel) rfl rfl dX2_addBeast_10 ?_
  refine z_get (C := RX0) (T := TX0) (N := 7) (ci := 0) K iX0 rfl 1 rfl 2 (by decide) (by decide +kernel) rfl rfl dX2_addBeast_13 ?_
  refine z_iload_n K 1 dX2_addBeast_16 rfl ?_
  refine z_ialdN K 2 0 f (by omega) (by omega) rfl rfl dX2_addBeast_17 ?_
  refine z_iload_n K 2 dX2_addBeast_18 rfl ?_
  refine z_callS (ws' := [(aX, .inr (2, [.ref aB, .ref aL, .ref aT, .int se])), (aB, .inr (0, [.int (nI n), .ref aB0, .ref aB1, .ref aB2, .ref aB3, .ref aB4, .ref aB5])), (aB1, .inl (cI, 20, .inl fb)), (aB4, .inl (cI, 20, .inl fv))]) (st' := [.int (z_b (hs (fb f) (nI b)))]) (rest := []) K (m_X2_has l _ D cI cZ cQ cW (fb f) (nI b) ) gX2_addBeast_X2_has rfl 2 (by decide +kernel) dX2_addBeast_19 [] [] [] rfl rfl rfl ⟨by decide, by decide⟩ ⟨by decide, by decide⟩ rfl rfl rfl rfl (Nat.le_of_ble_eq_true rfl) rfl rfl rfl rfl ?_
  refine z_if_eqB K 35 dX2_addBeast_22 (by decide) (fun c22 => ?_) (fun c22 => ?_)
  · refine z_aload_n K 0 dX2_addBeast_35 rfl ?_
    refine z_get (C := RX2) (T := TX2) (N := 4) (ci := 2) K iX2 rfl 0 rfl 0 (by decide) (by decide +kernel) rfl rfl dX2_addBeast_36 ?_
    refine z_get (C := RX0) (T := TX0) (N := 7) (ci := 0) K iX0 rfl 1 rfl 5 (by decide) (by decide +kernel) rfl rfl dX2_addBeast_39 ?_
    refine z_iload_n K 1 dX2_addBeast_42 rfl ?_
    refine z_ialdN K 3 0 f (by omega) (by omega) rfl rfl dX2_addBeast_43 ?_
    refine z_if_eq K 57 dX2_addBeast_44 (by decide) (fun c44 => ?_) (fun c44 => ?_)
    · refine z_aload_n K 0 dX2_addBeast_57 rfl ?_
      refine z_get (C := RX2) (T := TX2) (N := 4) (ci := 2) K iX2 rfl 0 rfl 0 (by decide) (by decide +kernel) rfl rfl dX2_addBeast_58 ?_
      refine z_get (C := RX0) (T := TX0) (N := 7) (ci := 0) K iX0 rfl 1 rfl 2 (by decide) (by decide +kernel) rfl rfl dX2_addBeast_61 ?_
      refine z_iload_n K 1 dX2_addBeast_64 rfl ?_
      refine z_dup2 K dX2_addBeast_65 rfl rfl ?_
      refine z_ialdN K 2 0 f (by omega) (by omega) rfl rfl dX2_addBeast_66 ?_
      refine z_iconst (v := 1) K dX2_addBeast_67 (by decide) ?_
      refine z_iload_n K 2 dX2_addBeast_68 rfl ?_
      refine z_ishl K dX2_addBeast_69 ?_
      refine z_ior K dX2_addBeast_70 ?_
      refine z_iastN K 2 0 f (by omega) (by omega) rfl rfl dX2_addBeast_71 (z_memA 0 rfl) (ws' := [(aX, .inr (2, [.ref aB, .ref aL, .ref aT, .int se])), (aB, .inr (0, [.int (nI n), .ref aB0, .ref aB1, .ref aB2, .ref aB3, .ref aB4, .ref aB5])), (aB1, .inl (cI, 20, .inl (upd fb f ((fb f) ||| ((1 : Int32) <<< (nI b &&& 31)))))), (aB4, .inl (cI, 20, .inl fv))]) rfl ?_
      refine z_aload_n K 0 dX2_addBeast_72 rfl ?_
      refine z_get (C := RX2) (T := TX2) (N := 4) (ci := 2) K iX2 rfl 0 rfl 0 (by decide) (by decide +kernel) rfl rfl dX2_addBeast_73 ?_
      refine z_get (C := RX0) (T := TX0) (N := 7) (ci := 0) K iX0 rfl 1 rfl 2 (by decide) (by decide +kernel) rfl rfl dX2_addBeast_76 ?_
      refine z_iload_n K 1 dX2_addBeast_79 rfl ?_
      refine z_ialdN K 2 0 f (by omega) (by omega) rfl rfl dX2_addBeast_80 ?_
      refine z_callS (ws' := [(aX, .inr (2, [.ref aB, .ref aL, .ref aT, .int se])), (aB, .inr (0, [.int (nI n), .ref aB0, .ref aB1, .ref aB2, .ref aB3, .ref aB4, .ref aB5])), (aB1, .inl (cI, 20, .inl (upd fb f ((fb f) ||| ((1 : Int32) <<< (nI b &&& 31)))))), (aB4, .inl (cI, 20, .inl fv))]) (st' := [.int (pc ((upd fb f ((fb f) ||| ((1 : Int32) <<< (nI b &&& 31)))) f))]) (rest := []) K (m_X2_size l _ D cI cZ cQ cW ((upd fb f ((fb f) ||| ((1 : Int32) <<< (nI b &&& 31)))) f) ) gX2_addBeast_X2_size rfl 1 (by decide +kernel) dX2_addBeast_81 [] [] [] rfl rfl rfl ⟨by decide, by decide⟩ ⟨by decide, by decide⟩ rfl rfl rfl rfl (Nat.le_of_ble_eq_true rfl) rfl rfl rfl rfl ?_
      rw [show (pc ((upd fb f ((fb f) ||| ((1 : Int32) <<< (nI b &&& 31)))) f)) = (pc (fb f ||| ((1 : Int32) <<< (nI b &&& 31)))) from (by first | (simp only [upd, c22, c44, Bool.false_eq_true, if_false, if_true, ↓reduceIte]; done) | rfl | simp [upd, c22, c44])]
      rw [show (upd fb f ((fb f) ||| ((1 : Int32) <<< (nI b &&& 31)))) = (upd fb f (fb f ||| ((1 : Int32) <<< (nI b &&& 31)))) from (by first | (simp only [upd, c22, c44, Bool.false_eq_true, if_false, if_true, ↓reduceIte]; done) | rfl | simp [upd, c22, c44])]
      exact z_iret K dX2_addBeast_84 (rfl) [2] rfl (by decide) (by decide)
    · first | exact absurd (hnb.symm.trans c44) (by decide) | exact absurd hnv c44
  · first | exact absurd (hnb.symm.trans c22) (by decide) | exact absurd hnv c22

set_option maxRecDepth 100000 in
set_option maxHeartbeats 4000000 in
theorem m_X2_addVariant (l : Launch) (G : Nat → Prop) (D : va_G) (cI cZ cQ cW : ClassId) (aX : Nat) (f : Nat) (x : Nat) (y : Nat) (v : Nat) (aB : Nat) (aL : Nat) (aT : Nat) (se : Int32) (n : Nat) (aB0 : Nat) (aB1 : Nat) (aB2 : Nat) (aB3 : Nat) (aB4 : Nat) (aB5 : Nat) (fm : Nat → Int32) (fb : Nat → Int32) (fh : Nat → Int32) (fp : Nat → Int32) (fv : Nat → Int32) (fa : Nat → Int32) (hn : n ≤ 20) (hf : f < n) (hx : x < 12) (hy : y < 12) (hv : v < 6) (hn2 : n < 20) (hgx : hs (fb f) (nI x) = true) (hcy : hs (fb f) (nI y) = false) : z_M l yX2_addVariant wsX2_addVariant { frames := 1, cells := 0, slots := 0, locals := 25 } G D [(cI, .int), (cZ, .boolean), (cQ, .array .int), (cW, .array .boolean)] [.ref aX, .int (nI f), .int (nI x), .int (nI y), .int (nI v)] ([(aX, .inr (2, [.ref aB, .ref aL, .ref aT, .int se])), (aB, .inr (0, [.int (nI n), .ref aB0, .ref aB1, .ref aB2, .ref aB3, .ref aB4, .ref aB5])), (aB0, .inl (cI, 20, .inl fm)), (aB1, .inl (cI, 20, .inl fb)), (aB2, .inl (cI, 20, .inl fh)), (aB3, .inl (cI, 20, .inl fp)), (aB4, .inl (cI, 20, .inl fv)), (aB5, .inl (cI, 20, .inl fa))]) (some (.int (nI n))) [(aB, .inr (0, [.int (nI (n + 1)), .ref aB0, .ref aB1, .ref aB2, .ref aB3, .ref aB4, .ref aB5])), (aB0, .inl (cI, 20, .inl (upd fm n (fm f)))), (aB1, .inl (cI, 20, .inl (upd fb n (tu (tu (fb f) (nI x)) (nI y))))), (aB2, .inl (cI, 20, .inl (upd fh n (nI v)))), (aB3, .inl (cI, 20, .inl (upd fp n (nI f)))), (aB4, .inl (cI, 20, .inl (wrV fv n (nI f)))), (aB5, .inl (cI, 20, .inl (wrA fa n (nI f))))] 0 0 := by
  have iX2 : ∀ w ∈ u_ws RX2 TX2 4, w ∈ wsX2_addVariant := fun w h => List.mem_cons_of_mem _ (List.mem_append_left _ (List.mem_append_left _ (List.mem_append_left _ (List.mem_append_right _ h))))
  have iX0 : ∀ w ∈ u_ws RX0 TX0 7, w ∈ wsX2_addVariant := fun w h => List.mem_cons_of_mem _ (List.mem_append_left _ (List.mem_append_left _ (List.mem_append_right _ h)))
  refine z_ofW (cc := cX2_addVariant) (nL := 6) (ret := (some .int)) (by decide) rfl (Nat.le_of_ble_eq_true rfl) [1, 2, 3, 4, 5, 6, 7] rfl (lv0 := [(0, .ref aX), (1, .int (nI f)), (2, .int (nI x)), (3, .int (nI y)), (4, .int (nI v))]) rfl ?_
  intro p e s m args below meth c K
  refine z_aload_n K 0 dX2_addVariant_0 rfl ?_
  refine z_iload_n K 1 dX2_addVariant_1 rfl ?_
  refine z_callV (ws' := [(aX, .inr (2, [.ref aB, .ref aL, .ref aT, .int se])), (aB, .inr (0, [.int (nI n), .ref aB0, .ref aB1, .ref aB2, .ref aB3, .ref aB4, .ref aB5])), (aB0, .inl (cI, 20, .inl fm)), (aB1, .inl (cI, 20, .inl fb)), (aB2, .inl (cI, 20, .inl fh)), (aB3, .inl (cI, 20, .inl fp)), (aB4, .inl (cI, 20, .inl fv)), (aB5, .inl (cI, 20, .inl fa))]) (st' := []) (rest := []) (C := RX2) (T := TX2) (N := 4) K (m_X2_needFable l _ D cI cZ cQ cW aX f aB aL aT se n aB0 aB1 aB2 aB3 aB4 aB5 (by omega) (by omega)) gX2_addVariant_X2_needFable rfl 1 2 (by decide +kernel) rfl dX2_addVariant_2 [0, 1] 0 [] [] rfl rfl rfl ⟨by decide, by decide⟩ ⟨by decide, by decide⟩ rfl rfl rfl rfl rfl (Nat.le_of_ble_eq_true rfl) rfl rfl rfl rfl ?_
  refine z_iload_n K 2 dX2_addVariant_5 rfl ?_
  refine z_callS (ws' := [(aX, .inr (2, [.ref aB, .ref aL, .ref aT, .int se])), (aB, .inr (0, [.int (nI n), .ref aB0, .ref aB1, .ref aB2, .ref aB3, .ref aB4, .ref aB5])), (aB0, .inl (cI, 20, .inl fm)), (aB1, .inl (cI, 20, .inl fb)), (aB2, .inl (cI, 20, .inl fh)), (aB3, .inl (cI, 20, .inl fp)), (aB4, .inl (cI, 20, .inl fv)), (aB5, .inl (cI, 20, .inl fa))]) (st' := []) (rest := []) K (m_X2_needBeast l _ D cI cZ cQ cW x (by omega)) gX2_addVariant_X2_needBeast rfl 1 (by decide +kernel) dX2_addVariant_6 [] [] [] rfl rfl rfl ⟨by decide, by decide⟩ ⟨by decide, by decide⟩ rfl rfl rfl rfl (Nat.le_of_ble_eq_true rfl) rfl rfl rfl rfl ?_
  refine z_iload_n K 3 dX2_addVariant_9 rfl ?_
  refine z_callS (ws' := [(aX, .inr (2, [.ref aB, .ref aL, .ref aT, .int se])), (aB, .inr (0, [.int (nI n), .ref aB0, .ref aB1, .ref aB2, .ref aB3, .ref aB4, .ref aB5])), (aB0, .inl (cI, 20, .inl fm)), (aB1, .inl (cI, 20, .inl fb)), (aB2, .inl (cI, 20, .inl fh)), (aB3, .inl (cI, 20, .inl fp)), (aB4, .inl (cI, 20, .inl fv)), (aB5, .inl (cI, 20, .inl fa))]) (st' := []) (rest := []) K (m_X2_needBeast l _ D cI cZ cQ cW y (by omega)) gX2_addVariant_X2_needBeast rfl 1 (by decide +kernel) dX2_addVariant_10 [] [] [] rfl rfl rfl ⟨by decide, by decide⟩ ⟨by decide, by decide⟩ rfl rfl rfl rfl (Nat.le_of_ble_eq_true rfl) rfl rfl rfl rfl ?_
  refine z_iload K 4 dX2_addVariant_13 rfl ?_
  refine z_callS (ws' := [(aX, .inr (2, [.ref aB, .ref aL, .ref aT, .int se])), (aB, .inr (0, [.int (nI n), .ref aB0, .ref aB1, .ref aB2, .ref aB3, .ref aB4, .ref aB5])), (aB0, .inl (cI, 20, .inl fm)), (aB1, .inl (cI, 20, .inl fb)), (aB2, .inl (cI, 20, .inl fh)), (aB3, .inl (cI, 20, .inl fp)), (aB4, .inl (cI, 20, .inl fv)), (aB5, .inl (cI, 20, .inl fa))]) (st' := []) (rest := []) K (m_X2_needValley l _ D cI cZ cQ cW v (by omega)) gX2_addVariant_X2_needValley rfl 1 (by decide +kernel) dX2_addVariant_15 [] [] [] rfl rfl rfl ⟨by decide, by decide⟩ ⟨by decide, by decide⟩ rfl rfl rfl rfl (Nat.le_of_ble_eq_true rfl) rfl rfl rfl rfl ?_
  refine z_aload_n K 0 dX2_addVariant_18 rfl ?_
  refine z_callV (ws' := [(aX, .inr (2, [.ref aB, .ref aL, .ref aT, .int se])), (aB, .inr (0, [.int (nI n), .ref aB0, .ref aB1, .ref aB2, .ref aB3, .ref aB4, .ref aB5])), (aB0, .inl (cI, 20, .inl fm)), (aB1, .inl (cI, 20, .inl fb)), (aB2, .inl (cI, 20, .inl fh)), (aB3, .inl (cI, 20, .inl fp)), (aB4, .inl (cI, 20, .inl fv)), (aB5, .inl (cI, 20, .inl fa))]) (st' := []) (rest := []) (C := RX2) (T := TX2) (N := 4) K (m_X2_needFreePage l _ D cI cZ cQ cW aX aB aL aT se n aB0 aB1 aB2 aB3 aB4 aB5 (by omega) (by omega)) gX2_addVariant_X2_needFreePage rfl 0 2 (by decide +kernel) rfl dX2_addVariant_19 [0, 1] 0 [] [] rfl rfl rfl ⟨by decide, by decide⟩ ⟨by decide, by decide⟩ rfl rfl rfl rfl rfl (Nat.le_of_ble_eq_true rfl) rfl rfl rfl rfl ?_
  refine z_aload_n K 0 dX2_addVariant_22 rfl ?_
  refine z_get (C := RX2) (T := TX2) (N := 4) (ci := 2) K iX2 rfl 0 rfl 0 (by decide) (by decide +kernel) rfl rfl dX2_addVariant_23 ?_
  refine z_get (C := RX0) (T := TX0) (N := 7) (ci := 0) K iX0 rfl 1 rfl 2 (by decide) (by decide +kernel) rfl rfl dX2_addVariant_26 ?_
  refine z_iload_n K 1 dX2_addVariant_29 rfl ?_
  refine z_ialdN K 3 0 f (by omega) (by omega) rfl rfl dX2_addVariant_30 ?_
  refine z_istore (lv' := [(5, .int (fb f)), (0, .ref aX), (1, .int (nI f)), (2, .int (nI x)), (3, .int (nI y)), (4, .int (nI v))]) K dX2_addVariant_31 (by decide) rfl ?_
  refine z_iload K 0 dX2_addVariant_33 rfl ?_
  refine z_iload_n K 3 dX2_addVariant_35 rfl ?_
  refine z_callS (ws' := [(aX, .inr (2, [.ref aB, .ref aL, .ref aT, .int se])), (aB, .inr (0, [.int (nI n), .ref aB0, .ref aB1, .ref aB2, .ref aB3, .ref aB4, .ref aB5])), (aB0, .inl (cI, 20, .inl fm)), (aB1, .inl (cI, 20, .inl fb)), (aB2, .inl (cI, 20, .inl fh)), (aB3, .inl (cI, 20, .inl fp)), (aB4, .inl (cI, 20, .inl fv)), (aB5, .inl (cI, 20, .inl fa))]) (st' := [.int (z_b (hs (fb f) (nI x)))]) (rest := []) K (m_X2_has l _ D cI cZ cQ cW (fb f) (nI x) ) gX2_addVariant_X2_has rfl 2 (by decide +kernel) dX2_addVariant_36 [] [] [] rfl rfl rfl ⟨by decide, by decide⟩ ⟨by decide, by decide⟩ rfl rfl rfl rfl (Nat.le_of_ble_eq_true rfl) rfl rfl rfl rfl ?_
  refine z_if_neB K 52 dX2_addVariant_39 (by decide) (fun c39 => ?_) (fun c39 => ?_)
  · refine z_iload K 0 dX2_addVariant_52 rfl ?_
    refine z_iload_n K 4 dX2_addVariant_54 rfl ?_
    refine z_callS (ws' := [(aX, .inr (2, [.ref aB, .ref aL, .ref aT, .int se])), (aB, .inr (0, [.int (nI n), .ref aB0, .ref aB1, .ref aB2, .ref aB3, .ref aB4, .ref aB5])), (aB0, .inl (cI, 20, .inl fm)), (aB1, .inl (cI, 20, .inl fb)), (aB2, .inl (cI, 20, .inl fh)), (aB3, .inl (cI, 20, .inl fp)), (aB4, .inl (cI, 20, .inl fv)), (aB5, .inl (cI, 20, .inl fa))]) (st' := [.int (z_b (hs (fb f) (nI y)))]) (rest := []) K (m_X2_has l _ D cI cZ cQ cW (fb f) (nI y) ) gX2_addVariant_X2_has rfl 2 (by decide +kernel) dX2_addVariant_55 [] [] [] rfl rfl rfl ⟨by decide, by decide⟩ ⟨by decide, by decide⟩ rfl rfl rfl rfl (Nat.le_of_ble_eq_true rfl) rfl rfl rfl rfl ?_
    refine z_if_eqB K 71 dX2_addVariant_58 (by decide) (fun c58 => ?_) (fun c58 => ?_)
    · refine z_aload_n K 1 dX2_addVariant_71 rfl ?_
      refine z_get (C := RX2) (T := TX2) (N := 4) (ci := 2) K iX2 rfl 0 rfl 0 (by decide) (by decide +kernel) rfl rfl dX2_addVariant_72 ?_
      refine z_aload_n K 1 dX2_addVariant_75 rfl ?_
      refine z_get (C := RX2) (T := TX2) (N := 4) (ci := 2) K iX2 rfl 0 rfl 0 (by decide) (by decide +kernel) rfl rfl dX2_addVariant_76 ?_
      refine z_get (C := RX0) (T := TX0) (N := 7) (ci := 0) K iX0 rfl 1 rfl 1 (by decide) (by decide +kernel) rfl rfl dX2_addVariant_79 ?_
      refine z_iload_n K 2 dX2_addVariant_82 rfl ?_
      refine z_ialdN K 2 0 f (by omega) (by omega) rfl rfl dX2_addVariant_83 ?_
      refine z_iload K 0 dX2_addVariant_84 rfl ?_
      refine z_iload_n K 3 dX2_addVariant_86 rfl ?_
      refine z_callS (ws' := [(aX, .inr (2, [.ref aB, .ref aL, .ref aT, .int se])), (aB, .inr (0, [.int (nI n), .ref aB0, .ref aB1, .ref aB2, .ref aB3, .ref aB4, .ref aB5])), (aB0, .inl (cI, 20, .inl fm)), (aB1, .inl (cI, 20, .inl fb)), (aB2, .inl (cI, 20, .inl fh)), (aB3, .inl (cI, 20, .inl fp)), (aB4, .inl (cI, 20, .inl fv)), (aB5, .inl (cI, 20, .inl fa))]) (st' := [.int (tu (fb f) (nI x)), .int (fm f), .ref aB]) (rest := [.int (fm f), .ref aB]) K (m_X2_turned l _ D cI cZ cQ cW (fb f) (nI x) ) gX2_addVariant_X2_turned rfl 2 (by decide +kernel) dX2_addVariant_87 [] [] [] rfl rfl rfl ⟨by decide, by decide⟩ ⟨by decide, by decide⟩ rfl rfl rfl rfl (Nat.le_of_ble_eq_true rfl) rfl rfl rfl rfl ?_
      refine z_iload_n K 4 dX2_addVariant_90 rfl ?_
      refine z_callS (ws' := [(aX, .inr (2, [.ref aB, .ref aL, .ref aT, .int se])), (aB, .inr (0, [.int (nI n), .ref aB0, .ref aB1, .ref aB2, .ref aB3, .ref aB4, .ref aB5])), (aB0, .inl (cI, 20, .inl fm)), (aB1, .inl (cI, 20, .inl fb)), (aB2, .inl (cI, 20, .inl fh)), (aB3, .inl (cI, 20, .inl fp)), (aB4, .inl (cI, 20, .inl fv)), (aB5, .inl (cI, 20, .inl fa))]) (st' := [.int (tu (tu (fb f) (nI x)) (nI y)), .int (fm f), .ref aB]) (rest := [.int (fm f), .ref aB]) K (m_X2_turned l _ D cI cZ cQ cW (tu (fb f) (nI x)) (nI y) ) gX2_addVariant_X2_turned rfl 2 (by decide +kernel) dX2_addVariant_91 [] [] [] rfl rfl rfl ⟨by decide, by decide⟩ ⟨by decide, by decide⟩ rfl rfl rfl rfl (Nat.le_of_ble_eq_true rfl) rfl rfl rfl rfl ?_
      refine z_iload K 5 dX2_addVariant_94 rfl ?_
      refine z_iload_n K 2 dX2_addVariant_96 rfl ?_
      refine z_callV (ws' := [(aX, .inr (2, [.ref aB, .ref aL, .ref aT, .int se])), (aB, .inr (0, [.int (nI (n + 1)), .ref aB0, .ref aB1, .ref aB2, .ref aB3, .ref aB4, .ref aB5])), (aB0, .inl (cI, 20, .inl (upd fm n (fm f)))), (aB1, .inl (cI, 20, .inl (upd fb n (tu (tu (fb f) (nI x)) (nI y))))), (aB2, .inl (cI, 20, .inl (upd fh n (nI v)))), (aB3, .inl (cI, 20, .inl (upd fp n (nI f)))), (aB4, .inl (cI, 20, .inl (wrV fv n (nI f)))), (aB5, .inl (cI, 20, .inl (wrA fa n (nI f))))]) (st' := [.int (nI n)]) (rest := []) (C := RX0) (T := TX0) (N := 7) K (m_X0_write l _ D cI cZ cQ cW aB (fm f) (tu (tu (fb f) (nI x)) (nI y)) (nI v) (nI f) n aB0 aB1 aB2 aB3 aB4 aB5 fm fb fh fp fv fa (by omega) (Or.inr ⟨f, hf, rfl⟩)) gX2_addVariant_X0_write rfl 4 0 (by decide +kernel) rfl dX2_addVariant_97 [1, 2, 3, 4, 5, 6, 7] 1 [1, 2, 3, 4, 5, 6, 7] [0, 1, 2, 3, 4, 5, 6] rfl rfl rfl ⟨by decide, by decide⟩ ⟨by decide, by decide⟩ rfl rfl rfl rfl rfl (Nat.le_of_ble_eq_true rfl) rfl rfl rfl rfl ?_
      exact z_iret K dX2_addVariant_100 (rfl) [1, 2, 3, 4, 5, 6, 7] rfl (by decide) (by decide)
    · first | exact absurd (hcy.symm.trans c58) (by decide) | exact absurd (hgx.symm.trans c58) (by decide)
  · first | exact absurd (hcy.symm.trans c39) (by decide) | exact absurd (hgx.symm.trans c39) (by decide)

set_option maxRecDepth 100000 in
set_option maxHeartbeats 4000000 in
theorem m_X2_turnPass (l : Launch) (G : Nat → Prop) (D : va_G) (cI cZ cQ cW : ClassId) (aX : Nat) (i : Nat) (j : Nat) (aB : Nat) (aL : Nat) (aT : Nat) (se : Int32) (aL0 : Nat) (aL1 : Nat) (aL2 : Nat) (aL3 : Nat) (aL4 : Nat) (aL5 : Nat) (hu : Int32) (lw : Nat → Int32) (hi : i < 6) (hj : j < 6) (hij : i ≠ j) : z_M l yX2_turnPass wsX2_turnPass { frames := 2, cells := 0, slots := 0, locals := 43 } G D [(cI, .int), (cZ, .boolean), (cQ, .array .int), (cW, .array .boolean)] [.ref aX, .int (nI i), .int (nI j)] ([(aX, .inr (2, [.ref aB, .ref aL, .ref aT, .int se])), (aL, .inr (1, [.ref aL0, .ref aL1, .ref aL2, .ref aL3, .ref aL4, .ref aL5, .int hu])), (aL0, .inl (cI, 6, .inl lw))]) (some (.int (z_b (hs (turnW lw i j i) (nI j))))) [(aL0, .inl (cI, 6, .inl (turnW lw i j)))] 0 0 := by
  have iX2 : ∀ w ∈ u_ws RX2 TX2 4, w ∈ wsX2_turnPass := fun w h => List.mem_cons_of_mem _ (List.mem_append_left _ (List.mem_append_left _ (List.mem_append_left _ (List.mem_append_right _ h))))
  have iX1 : ∀ w ∈ u_ws RX1 TX1 7, w ∈ wsX2_turnPass := fun w h => List.mem_cons_of_mem _ (List.mem_append_left _ (List.mem_append_left _ (List.mem_append_right _ h)))
  refine z_ofW (cc := cX2_turnPass) (nL := 3) (ret := (some .boolean)) (by decide) rfl (Nat.le_of_ble_eq_true rfl) [2] rfl (lv0 := [(0, .ref aX), (1, .int (nI i)), (2, .int (nI j))]) rfl ?_
  intro p e s m args below meth c K
  refine z_iload_n K 1 dX2_turnPass_0 rfl ?_
  refine z_callS (ws' := [(aX, .inr (2, [.ref aB, .ref aL, .ref aT, .int se])), (aL, .inr (1, [.ref aL0, .ref aL1, .ref aL2, .ref aL3, .ref aL4, .ref aL5, .int hu])), (aL0, .inl (cI, 6, .inl lw))]) (st' := []) (rest := []) K (m_X2_needValley l _ D cI cZ cQ cW i (by omega)) gX2_turnPass_X2_needValley rfl 1 (by decide +kernel) dX2_turnPass_1 [] [] [] rfl rfl rfl ⟨by decide, by decide⟩ ⟨by decide, by decide⟩ rfl rfl rfl rfl (Nat.le_of_ble_eq_true rfl) rfl rfl rfl rfl ?_
  refine z_iload_n K 2 dX2_turnPass_4 rfl ?_
  refine z_callS (ws' := [(aX, .inr (2, [.ref aB, .ref aL, .ref aT, .int se])), (aL, .inr (1, [.ref aL0, .ref aL1, .ref aL2, .ref aL3, .ref aL4, .ref aL5, .int hu])), (aL0, .inl (cI, 6, .inl lw))]) (st' := []) (rest := []) K (m_X2_needValley l _ D cI cZ cQ cW j (by omega)) gX2_turnPass_X2_needValley rfl 1 (by decide +kernel) dX2_turnPass_5 [] [] [] rfl rfl rfl ⟨by decide, by decide⟩ ⟨by decide, by decide⟩ rfl rfl rfl rfl (Nat.le_of_ble_eq_true rfl) rfl rfl rfl rfl ?_
  refine z_iload_n K 1 dX2_turnPass_8 rfl ?_
  refine z_iload_n K 2 dX2_turnPass_9 rfl ?_
  refine z_icmp_ne K 23 dX2_turnPass_10 (by decide) (fun c10 => ?_) (fun c10 => ?_)
  · refine z_aload_n K 0 dX2_turnPass_23 rfl ?_
    refine z_get (C := RX2) (T := TX2) (N := 4) (ci := 2) K iX2 rfl 0 rfl 1 (by decide) (by decide +kernel) rfl rfl dX2_turnPass_24 ?_
    refine z_iload_n K 1 dX2_turnPass_27 rfl ?_
    refine z_iload_n K 2 dX2_turnPass_28 rfl ?_
    refine z_callV (ws' := [(aX, .inr (2, [.ref aB, .ref aL, .ref aT, .int se])), (aL, .inr (1, [.ref aL0, .ref aL1, .ref aL2, .ref aL3, .ref aL4, .ref aL5, .int hu])), (aL0, .inl (cI, 6, .inl (turnW lw i j)))]) (st' := []) (rest := []) (C := RX1) (T := TX1) (N := 7) K (m_X1_turnWay l _ D cI cZ cQ cW aL i j aL0 aL1 aL2 aL3 aL4 aL5 hu lw (by omega) (by omega)) gX2_turnPass_X1_turnWay rfl 2 1 (by decide +kernel) rfl dX2_turnPass_29 [1, 2] 1 [2] [0] rfl rfl rfl ⟨by decide, by decide⟩ ⟨by decide, by decide⟩ rfl rfl rfl rfl rfl (Nat.le_of_ble_eq_true rfl) rfl rfl rfl rfl ?_
    refine z_aload_n K 0 dX2_turnPass_32 rfl ?_
    refine z_get (C := RX2) (T := TX2) (N := 4) (ci := 2) K iX2 rfl 0 rfl 1 (by decide) (by decide +kernel) rfl rfl dX2_turnPass_33 ?_
    refine z_get (C := RX1) (T := TX1) (N := 7) (ci := 1) K iX1 rfl 1 rfl 0 (by decide) (by decide +kernel) rfl rfl dX2_turnPass_36 ?_
    refine z_iload_n K 1 dX2_turnPass_39 rfl ?_
    refine z_ialdN K 2 0 i (by omega) (by omega) rfl rfl dX2_turnPass_40 ?_
    refine z_iload_n K 2 dX2_turnPass_41 rfl ?_
    refine z_callS (ws' := [(aX, .inr (2, [.ref aB, .ref aL, .ref aT, .int se])), (aL, .inr (1, [.ref aL0, .ref aL1, .ref aL2, .ref aL3, .ref aL4, .ref aL5, .int hu])), (aL0, .inl (cI, 6, .inl (turnW lw i j)))]) (st' := [.int (z_b (hs ((turnW lw i j) i) (nI j)))]) (rest := []) K (m_X2_has l _ D cI cZ cQ cW ((turnW lw i j) i) (nI j) ) gX2_turnPass_X2_has rfl 2 (by decide +kernel) dX2_turnPass_42 [] [] [] rfl rfl rfl ⟨by decide, by decide⟩ ⟨by decide, by decide⟩ rfl rfl rfl rfl (Nat.le_of_ble_eq_true rfl) rfl rfl rfl rfl ?_
    exact z_zret K dX2_turnPass_45 ((by first | (simp only [c10, Bool.false_eq_true, if_false, if_true, ↓reduceIte]; done) | rfl | simp [c10])) [2] rfl (by decide) (by decide)
  · first | exact absurd ((nI_eq (by omega) (by omega)).mp c10) hij

set_option maxRecDepth 100000 in
set_option maxHeartbeats 4000000 in
theorem m_X2_turnMoral (l : Launch) (G : Nat → Prop) (D : va_G) (cI cZ cQ cW : ClassId) (aX : Nat) (v : Nat) (mo : Nat) (aB : Nat) (aL : Nat) (aT : Nat) (se : Int32) (aL0 : Nat) (aL1 : Nat) (aL2 : Nat) (aL3 : Nat) (aL4 : Nat) (aL5 : Nat) (hu : Int32) (lm : Nat → Int32) (hv : v < 6) (hm : mo < 10) : z_M l yX2_turnMoral wsX2_turnMoral { frames := 1, cells := 0, slots := 0, locals := 21 } G D [(cI, .int), (cZ, .boolean), (cQ, .array .int), (cW, .array .boolean)] [.ref aX, .int (nI v), .int (nI mo)] ([(aX, .inr (2, [.ref aB, .ref aL, .ref aT, .int se])), (aL, .inr (1, [.ref aL0, .ref aL1, .ref aL2, .ref aL3, .ref aL4, .ref aL5, .int hu])), (aL1, .inl (cI, 6, .inl lm))]) (some (.int (z_b (hs (tu (lm v) (nI mo)) (nI mo))))) [(aL1, .inl (cI, 6, .inl (upd lm v (tu (lm v) (nI mo)))))] 0 0 := by
  have iX2 : ∀ w ∈ u_ws RX2 TX2 4, w ∈ wsX2_turnMoral := fun w h => List.mem_cons_of_mem _ (List.mem_append_left _ (List.mem_append_left _ (List.mem_append_right _ h)))
  have iX1 : ∀ w ∈ u_ws RX1 TX1 7, w ∈ wsX2_turnMoral := fun w h => List.mem_cons_of_mem _ (List.mem_append_left _ (List.mem_append_right _ h))
  refine z_ofW (cc := cX2_turnMoral) (nL := 3) (ret := (some .boolean)) (by decide) rfl (Nat.le_of_ble_eq_true rfl) [2] rfl (lv0 := [(0, .ref aX), (1, .int (nI v)), (2, .int (nI mo))]) rfl ?_
  intro p e s m args below meth c K
  refine z_iload_n K 1 dX2_turnMoral_0 rfl ?_
  refine z_callS (ws' := [(aX, .inr (2, [.ref aB, .ref aL, .ref aT, .int se])), (aL, .inr (1, [.ref aL0, .ref aL1, .ref aL2, .ref aL3, .ref aL4, .ref aL5, .int hu])), (aL1, .inl (cI, 6, .inl lm))]) (st' := []) (rest := []) K (m_X2_needValley l _ D cI cZ cQ cW v (by omega)) gX2_turnMoral_X2_needValley rfl 1 (by decide +kernel) dX2_turnMoral_1 [] [] [] rfl rfl rfl ⟨by decide, by decide⟩ ⟨by decide, by decide⟩ rfl rfl rfl rfl (Nat.le_of_ble_eq_true rfl) rfl rfl rfl rfl ?_
  refine z_iload_n K 2 dX2_turnMoral_4 rfl ?_
  refine z_callS (ws' := [(aX, .inr (2, [.ref aB, .ref aL, .ref aT, .int se])), (aL, .inr (1, [.ref aL0, .ref aL1, .ref aL2, .ref aL3, .ref aL4, .ref aL5, .int hu])), (aL1, .inl (cI, 6, .inl lm))]) (st' := []) (rest := []) K (m_X2_needMoral l _ D cI cZ cQ cW mo (by omega)) gX2_turnMoral_X2_needMoral rfl 1 (by decide +kernel) dX2_turnMoral_5 [] [] [] rfl rfl rfl ⟨by decide, by decide⟩ ⟨by decide, by decide⟩ rfl rfl rfl rfl (Nat.le_of_ble_eq_true rfl) rfl rfl rfl rfl ?_
  refine z_aload_n K 0 dX2_turnMoral_8 rfl ?_
  refine z_get (C := RX2) (T := TX2) (N := 4) (ci := 2) K iX2 rfl 0 rfl 1 (by decide) (by decide +kernel) rfl rfl dX2_turnMoral_9 ?_
  refine z_get (C := RX1) (T := TX1) (N := 7) (ci := 1) K iX1 rfl 1 rfl 1 (by decide) (by decide +kernel) rfl rfl dX2_turnMoral_12 ?_
  refine z_iload_n K 1 dX2_turnMoral_15 rfl ?_
  refine z_aload_n K 0 dX2_turnMoral_16 rfl ?_
  refine z_get (C := RX2) (T := TX2) (N := 4) (ci := 2) K iX2 rfl 0 rfl 1 (by decide) (by decide +kernel) rfl rfl dX2_turnMoral_17 ?_
  refine z_get (C := RX1) (T := TX1) (N := 7) (ci := 1) K iX1 rfl 1 rfl 1 (by decide) (by decide +kernel) rfl rfl dX2_turnMoral_20 ?_
  refine z_iload_n K 1 dX2_turnMoral_23 rfl ?_
  refine z_ialdN K 2 0 v (by omega) (by omega) rfl rfl dX2_turnMoral_24 ?_
  refine z_iload_n K 2 dX2_turnMoral_25 rfl ?_
  refine z_callS (ws' := [(aX, .inr (2, [.ref aB, .ref aL, .ref aT, .int se])), (aL, .inr (1, [.ref aL0, .ref aL1, .ref aL2, .ref aL3, .ref aL4, .ref aL5, .int hu])), (aL1, .inl (cI, 6, .inl lm))]) (st' := [.int (tu (lm v) (nI mo)), .int (nI v), .ref aL1]) (rest := [.int (nI v), .ref aL1]) K (m_X2_turned l _ D cI cZ cQ cW (lm v) (nI mo) ) gX2_turnMoral_X2_turned rfl 2 (by decide +kernel) dX2_turnMoral_26 [] [] [] rfl rfl rfl ⟨by decide, by decide⟩ ⟨by decide, by decide⟩ rfl rfl rfl rfl (Nat.le_of_ble_eq_true rfl) rfl rfl rfl rfl ?_
  refine z_iastN K 2 0 v (by omega) (by omega) rfl rfl dX2_turnMoral_29 (z_memA 0 rfl) (ws' := [(aX, .inr (2, [.ref aB, .ref aL, .ref aT, .int se])), (aL, .inr (1, [.ref aL0, .ref aL1, .ref aL2, .ref aL3, .ref aL4, .ref aL5, .int hu])), (aL1, .inl (cI, 6, .inl (upd lm v (tu (lm v) (nI mo)))))]) rfl ?_
  refine z_aload_n K 0 dX2_turnMoral_30 rfl ?_
  refine z_get (C := RX2) (T := TX2) (N := 4) (ci := 2) K iX2 rfl 0 rfl 1 (by decide) (by decide +kernel) rfl rfl dX2_turnMoral_31 ?_
  refine z_get (C := RX1) (T := TX1) (N := 7) (ci := 1) K iX1 rfl 1 rfl 1 (by decide) (by decide +kernel) rfl rfl dX2_turnMoral_34 ?_
  refine z_iload_n K 1 dX2_turnMoral_37 rfl ?_
  refine z_ialdN K 2 0 v (by omega) (by omega) rfl rfl dX2_turnMoral_38 ?_
  refine z_iload_n K 2 dX2_turnMoral_39 rfl ?_
  refine z_callS (ws' := [(aX, .inr (2, [.ref aB, .ref aL, .ref aT, .int se])), (aL, .inr (1, [.ref aL0, .ref aL1, .ref aL2, .ref aL3, .ref aL4, .ref aL5, .int hu])), (aL1, .inl (cI, 6, .inl (upd lm v (tu (lm v) (nI mo)))))]) (st' := [.int (z_b (hs ((upd lm v (tu (lm v) (nI mo))) v) (nI mo)))]) (rest := []) K (m_X2_has l _ D cI cZ cQ cW ((upd lm v (tu (lm v) (nI mo))) v) (nI mo) ) gX2_turnMoral_X2_has rfl 2 (by decide +kernel) dX2_turnMoral_40 [] [] [] rfl rfl rfl ⟨by decide, by decide⟩ ⟨by decide, by decide⟩ rfl rfl rfl rfl (Nat.le_of_ble_eq_true rfl) rfl rfl rfl rfl ?_
  exact z_zret K dX2_turnMoral_43 ((by first | (simp only [upd, Bool.false_eq_true, if_false, if_true, ↓reduceIte]; done) | rfl | simp [upd])) [2] rfl (by decide) (by decide)

set_option maxRecDepth 100000 in
set_option maxHeartbeats 4000000 in
theorem m_X2_turnBeast (l : Launch) (G : Nat → Prop) (D : va_G) (cI cZ cQ cW : ClassId) (aX : Nat) (v : Nat) (b : Nat) (aB : Nat) (aL : Nat) (aT : Nat) (se : Int32) (aL0 : Nat) (aL1 : Nat) (aL2 : Nat) (aL3 : Nat) (aL4 : Nat) (aL5 : Nat) (hu : Int32) (lb : Nat → Int32) (hv : v < 6) (hb : b < 12) : z_M l yX2_turnBeast wsX2_turnBeast { frames := 1, cells := 0, slots := 0, locals := 21 } G D [(cI, .int), (cZ, .boolean), (cQ, .array .int), (cW, .array .boolean)] [.ref aX, .int (nI v), .int (nI b)] ([(aX, .inr (2, [.ref aB, .ref aL, .ref aT, .int se])), (aL, .inr (1, [.ref aL0, .ref aL1, .ref aL2, .ref aL3, .ref aL4, .ref aL5, .int hu])), (aL2, .inl (cI, 6, .inl lb))]) (some (.int (z_b (hs (tu (lb v) (nI b)) (nI b))))) [(aL2, .inl (cI, 6, .inl (upd lb v (tu (lb v) (nI b)))))] 0 0 := by
  have iX2 : ∀ w ∈ u_ws RX2 TX2 4, w ∈ wsX2_turnBeast := fun w h => List.mem_cons_of_mem _ (List.mem_append_left _ (List.mem_append_left _ (List.mem_append_right _ h)))
  have iX1 : ∀ w ∈ u_ws RX1 TX1 7, w ∈ wsX2_turnBeast := fun w h => List.mem_cons_of_mem _ (List.mem_append_left _ (List.mem_append_right _ h))
  refine z_ofW (cc := cX2_turnBeast) (nL := 3) (ret := (some .boolean)) (by decide) rfl (Nat.le_of_ble_eq_true rfl) [2] rfl (lv0 := [(0, .ref aX), (1, .int (nI v)), (2, .int (nI b))]) rfl ?_
  intro p e s m args below meth c K
  refine z_iload_n K 1 dX2_turnBeast_0 rfl ?_
  refine z_callS (ws' := [(aX, .inr (2, [.ref aB, .ref aL, .ref aT, .int se])), (aL, .inr (1, [.ref aL0, .ref aL1, .ref aL2, .ref aL3, .ref aL4, .ref aL5, .int hu])), (aL2, .inl (cI, 6, .inl lb))]) (st' := []) (rest := []) K (m_X2_needValley l _ D cI cZ cQ cW v (by omega)) gX2_turnBeast_X2_needValley rfl 1 (by decide +kernel) dX2_turnBeast_1 [] [] [] rfl rfl rfl ⟨by decide, by decide⟩ ⟨by decide, by decide⟩ rfl rfl rfl rfl (Nat.le_of_ble_eq_true rfl) rfl rfl rfl rfl ?_
  refine z_iload_n K 2 dX2_turnBeast_4 rfl ?_
  refine z_callS (ws' := [(aX, .inr (2, [.ref aB, .ref aL, .ref aT, .int se])), (aL, .inr (1, [.ref aL0, .ref aL1, .ref aL2, .ref aL3, .ref aL4, .ref aL5, .int hu])), (aL2, .inl (cI, 6, .inl lb))]) (st' := []) (rest := []) K (m_X2_needBeast l _ D cI cZ cQ cW b (by omega)) gX2_turnBeast_X2_needBeast rfl 1 (by decide +kernel) dX2_turnBeast_5 [] [] [] rfl rfl rfl ⟨by decide, by decide⟩ ⟨by decide, by decide⟩ rfl rfl rfl rfl (Nat.le_of_ble_eq_true rfl) rfl rfl rfl rfl ?_
  refine z_aload_n K 0 dX2_turnBeast_8 rfl ?_
  refine z_get (C := RX2) (T := TX2) (N := 4) (ci := 2) K iX2 rfl 0 rfl 1 (by decide) (by decide +kernel) rfl rfl dX2_turnBeast_9 ?_
  refine z_get (C := RX1) (T := TX1) (N := 7) (ci := 1) K iX1 rfl 1 rfl 2 (by decide) (by decide +kernel) rfl rfl dX2_turnBeast_12 ?_
  refine z_iload_n K 1 dX2_turnBeast_15 rfl ?_
  refine z_aload_n K 0 dX2_turnBeast_16 rfl ?_
  refine z_get (C := RX2) (T := TX2) (N := 4) (ci := 2) K iX2 rfl 0 rfl 1 (by decide) (by decide +kernel) rfl rfl dX2_turnBeast_17 ?_
  refine z_get (C := RX1) (T := TX1) (N := 7) (ci := 1) K iX1 rfl 1 rfl 2 (by decide) (by decide +kernel) rfl rfl dX2_turnBeast_20 ?_
  refine z_iload_n K 1 dX2_turnBeast_23 rfl ?_
  refine z_ialdN K 2 0 v (by omega) (by omega) rfl rfl dX2_turnBeast_24 ?_
  refine z_iload_n K 2 dX2_turnBeast_25 rfl ?_
  refine z_callS (ws' := [(aX, .inr (2, [.ref aB, .ref aL, .ref aT, .int se])), (aL, .inr (1, [.ref aL0, .ref aL1, .ref aL2, .ref aL3, .ref aL4, .ref aL5, .int hu])), (aL2, .inl (cI, 6, .inl lb))]) (st' := [.int (tu (lb v) (nI b)), .int (nI v), .ref aL2]) (rest := [.int (nI v), .ref aL2]) K (m_X2_turned l _ D cI cZ cQ cW (lb v) (nI b) ) gX2_turnBeast_X2_turned rfl 2 (by decide +kernel) dX2_turnBeast_26 [] [] [] rfl rfl rfl ⟨by decide, by decide⟩ ⟨by decide, by decide⟩ rfl rfl rfl rfl (Nat.le_of_ble_eq_true rfl) rfl rfl rfl rfl ?_
  refine z_iastN K 2 0 v (by omega) (by omega) rfl rfl dX2_turnBeast_29 (z_memA 0 rfl) (ws' := [(aX, .inr (2, [.ref aB, .ref aL, .ref aT, .int se])), (aL, .inr (1, [.ref aL0, .ref aL1, .ref aL2, .ref aL3, .ref aL4, .ref aL5, .int hu])), (aL2, .inl (cI, 6, .inl (upd lb v (tu (lb v) (nI b)))))]) rfl ?_
  refine z_aload_n K 0 dX2_turnBeast_30 rfl ?_
  refine z_get (C := RX2) (T := TX2) (N := 4) (ci := 2) K iX2 rfl 0 rfl 1 (by decide) (by decide +kernel) rfl rfl dX2_turnBeast_31 ?_
  refine z_get (C := RX1) (T := TX1) (N := 7) (ci := 1) K iX1 rfl 1 rfl 2 (by decide) (by decide +kernel) rfl rfl dX2_turnBeast_34 ?_
  refine z_iload_n K 1 dX2_turnBeast_37 rfl ?_
  refine z_ialdN K 2 0 v (by omega) (by omega) rfl rfl dX2_turnBeast_38 ?_
  refine z_iload_n K 2 dX2_turnBeast_39 rfl ?_
  refine z_callS (ws' := [(aX, .inr (2, [.ref aB, .ref aL, .ref aT, .int se])), (aL, .inr (1, [.ref aL0, .ref aL1, .ref aL2, .ref aL3, .ref aL4, .ref aL5, .int hu])), (aL2, .inl (cI, 6, .inl (upd lb v (tu (lb v) (nI b)))))]) (st' := [.int (z_b (hs ((upd lb v (tu (lb v) (nI b))) v) (nI b)))]) (rest := []) K (m_X2_has l _ D cI cZ cQ cW ((upd lb v (tu (lb v) (nI b))) v) (nI b) ) gX2_turnBeast_X2_has rfl 2 (by decide +kernel) dX2_turnBeast_40 [] [] [] rfl rfl rfl ⟨by decide, by decide⟩ ⟨by decide, by decide⟩ rfl rfl rfl rfl (Nat.le_of_ble_eq_true rfl) rfl rfl rfl rfl ?_
  exact z_zret K dX2_turnBeast_43 ((by first | (simp only [upd, Bool.false_eq_true, if_false, if_true, ↓reduceIte]; done) | rfl | simp [upd])) [2] rfl (by decide) (by decide)

set_option maxRecDepth 100000 in
set_option maxHeartbeats 4000000 in
theorem m_X2_tell (l : Launch) (G : Nat → Prop) (D : va_G) (cI cZ cQ cW : ClassId) (aX : Nat) (f : Nat) (v : Nat) (aB : Nat) (aL : Nat) (aT : Nat) (se : Int32) (n : Nat) (aB0 : Nat) (aB1 : Nat) (aB2 : Nat) (aB3 : Nat) (aB4 : Nat) (aB5 : Nat) (fm : Nat → Int32) (fb : Nat → Int32) (aL0 : Nat) (aL1 : Nat) (aL2 : Nat) (aL3 : Nat) (aL4 : Nat) (aL5 : Nat) (hu : Int32) (lm : Nat → Int32) (lb : Nat → Int32) (lt : Nat → Int32) (hn : n ≤ 20) (hf : f < n) (hv : v < 6) (hnt : hs (lt v) (nI f) = false) (hnb : ban lm lb fm fb f v = false) : z_M l yX2_tell wsX2_tell { frames := 3, cells := 0, slots := 0, locals := 63 } G D [(cI, .int), (cZ, .boolean), (cQ, .array .int), (cW, .array .boolean)] [.ref aX, .int (nI f), .int (nI v)] ([(aX, .inr (2, [.ref aB, .ref aL, .ref aT, .int se])), (aB, .inr (0, [.int (nI n), .ref aB0, .ref aB1, .ref aB2, .ref aB3, .ref aB4, .ref aB5])), (aB0, .inl (cI, 20, .inl fm)), (aB1, .inl (cI, 20, .inl fb)), (aL, .inr (1, [.ref aL0, .ref aL1, .ref aL2, .ref aL3, .ref aL4, .ref aL5, .int hu])), (aL1, .inl (cI, 6, .inl lm)), (aL2, .inl (cI, 6, .inl lb)), (aL3, .inl (cI, 6, .inl lt))]) (some (.int (cntS (upd lt v (lt v ||| ((1 : Int32) <<< (nI f &&& 31)))) ((1 : Int32) <<< (nI f &&& 31)) 6))) [(aL3, .inl (cI, 6, .inl (upd lt v (lt v ||| ((1 : Int32) <<< (nI f &&& 31))))))] 0 0 := by
  have iX2 : ∀ w ∈ u_ws RX2 TX2 4, w ∈ wsX2_tell := fun w h => List.mem_cons_of_mem _ (List.mem_append_left _ (List.mem_append_left _ (List.mem_append_left _ (List.mem_append_left _ (List.mem_append_right _ h)))))
  have iX1 : ∀ w ∈ u_ws RX1 TX1 7, w ∈ wsX2_tell := fun w h => List.mem_cons_of_mem _ (List.mem_append_left _ (List.mem_append_left _ (List.mem_append_left _ (List.mem_append_right _ h))))
  have iX0 : ∀ w ∈ u_ws RX0 TX0 7, w ∈ wsX2_tell := fun w h => List.mem_cons_of_mem _ (List.mem_append_left _ (List.mem_append_left _ (List.mem_append_right _ h)))
  refine z_ofW (cc := cX2_tell) (nL := 3) (ret := (some .int)) (by decide) rfl (Nat.le_of_ble_eq_true rfl) [7] rfl (lv0 := [(0, .ref aX), (1, .int (nI f)), (2, .int (nI v))]) rfl ?_
  intro p e s m args below meth c K
  refine z_aload_n K 0 dX2_tell_0 rfl ?_
  refine z_iload_n K 1 dX2_tell_1 rfl ?_
  refine z_callV (ws' := [(aX, .inr (2, [.ref aB, .ref aL, .ref aT, .int se])), (aB, .inr (0, [.int (nI n), .ref aB0, .ref aB1, .ref aB2, .ref aB3, .ref aB4, .ref aB5])), (aB0, .inl (cI, 20, .inl fm)), (aB1, .inl (cI, 20, .inl fb)), (aL, .inr (1, [.ref aL0, .ref aL1, .ref aL2, .ref aL3, .ref aL4, .ref aL5, .int hu])), (aL1, .inl (cI, 6, .inl lm)), (aL2, .inl (cI, 6, .inl lb)), (aL3, .inl (cI, 6, .inl lt))]) (st' := []) (rest := []) (C := RX2) (T := TX2) (N := 4) K (m_X2_needFable l _ D cI cZ cQ cW aX f aB aL aT se n aB0 aB1 aB2 aB3 aB4 aB5 (by omega) (by omega)) gX2_tell_X2_needFable rfl 1 2 (by decide +kernel) rfl dX2_tell_2 [0, 1] 0 [] [] rfl rfl rfl ⟨by decide, by decide⟩ ⟨by decide, by decide⟩ rfl rfl rfl rfl rfl (Nat.le_of_ble_eq_true rfl) rfl rfl rfl rfl ?_
  refine z_iload_n K 2 dX2_tell_5 rfl ?_
  refine z_callS (ws' := [(aX, .inr (2, [.ref aB, .ref aL, .ref aT, .int se])), (aB, .inr (0, [.int (nI n), .ref aB0, .ref aB1, .ref aB2, .ref aB3, .ref aB4, .ref aB5])), (aB0, .inl (cI, 20, .inl fm)), (aB1, .inl (cI, 20, .inl fb)), (aL, .inr (1, [.ref aL0, .ref aL1, .ref aL2, .ref aL3, .ref aL4, .ref aL5, .int hu])), (aL1, .inl (cI, 6, .inl lm)), (aL2, .inl (cI, 6, .inl lb)), (aL3, .inl (cI, 6, .inl lt))]) (st' := []) (rest := []) K (m_X2_needValley l _ D cI cZ cQ cW v (by omega)) gX2_tell_X2_needValley rfl 1 (by decide +kernel) dX2_tell_6 [] [] [] rfl rfl rfl ⟨by decide, by decide⟩ ⟨by decide, by decide⟩ rfl rfl rfl rfl (Nat.le_of_ble_eq_true rfl) rfl rfl rfl rfl ?_
  refine z_aload_n K 0 dX2_tell_9 rfl ?_
  refine z_get (C := RX2) (T := TX2) (N := 4) (ci := 2) K iX2 rfl 0 rfl 1 (by decide) (by decide +kernel) rfl rfl dX2_tell_10 ?_
  refine z_get (C := RX1) (T := TX1) (N := 7) (ci := 1) K iX1 rfl 4 rfl 3 (by decide) (by decide +kernel) rfl rfl dX2_tell_13 ?_
  refine z_iload_n K 2 dX2_tell_16 rfl ?_
  refine z_ialdN K 7 0 v (by omega) (by omega) rfl rfl dX2_tell_17 ?_
  refine z_iload_n K 1 dX2_tell_18 rfl ?_
  refine z_callS (ws' := [(aX, .inr (2, [.ref aB, .ref aL, .ref aT, .int se])), (aB, .inr (0, [.int (nI n), .ref aB0, .ref aB1, .ref aB2, .ref aB3, .ref aB4, .ref aB5])), (aB0, .inl (cI, 20, .inl fm)), (aB1, .inl (cI, 20, .inl fb)), (aL, .inr (1, [.ref aL0, .ref aL1, .ref aL2, .ref aL3, .ref aL4, .ref aL5, .int hu])), (aL1, .inl (cI, 6, .inl lm)), (aL2, .inl (cI, 6, .inl lb)), (aL3, .inl (cI, 6, .inl lt))]) (st' := [.int (z_b (hs (lt v) (nI f)))]) (rest := []) K (m_X2_has l _ D cI cZ cQ cW (lt v) (nI f) ) gX2_tell_X2_has rfl 2 (by decide +kernel) dX2_tell_19 [] [] [] rfl rfl rfl ⟨by decide, by decide⟩ ⟨by decide, by decide⟩ rfl rfl rfl rfl (Nat.le_of_ble_eq_true rfl) rfl rfl rfl rfl ?_
  refine z_if_eqB K 35 dX2_tell_22 (by decide) (fun c22 => ?_) (fun c22 => ?_)
  · refine z_aload_n K 0 dX2_tell_35 rfl ?_
    refine z_get (C := RX2) (T := TX2) (N := 4) (ci := 2) K iX2 rfl 0 rfl 1 (by decide) (by decide +kernel) rfl rfl dX2_tell_36 ?_
    refine z_aload_n K 0 dX2_tell_39 rfl ?_
    refine z_get (C := RX2) (T := TX2) (N := 4) (ci := 2) K iX2 rfl 0 rfl 0 (by decide) (by decide +kernel) rfl rfl dX2_tell_40 ?_
    refine z_iload_n K 1 dX2_tell_43 rfl ?_
    refine z_iload_n K 2 dX2_tell_44 rfl ?_
    refine z_callV (ws' := [(aX, .inr (2, [.ref aB, .ref aL, .ref aT, .int se])), (aB, .inr (0, [.int (nI n), .ref aB0, .ref aB1, .ref aB2, .ref aB3, .ref aB4, .ref aB5])), (aB0, .inl (cI, 20, .inl fm)), (aB1, .inl (cI, 20, .inl fb)), (aL, .inr (1, [.ref aL0, .ref aL1, .ref aL2, .ref aL3, .ref aL4, .ref aL5, .int hu])), (aL1, .inl (cI, 6, .inl lm)), (aL2, .inl (cI, 6, .inl lb)), (aL3, .inl (cI, 6, .inl lt))]) (st' := [.int (z_b (ban lm lb fm fb f v))]) (rest := []) (C := RX1) (T := TX1) (N := 7) K (m_X1_bans l _ D cI cZ cQ cW aL aB f v aL0 aL1 aL2 aL3 aL4 aL5 hu lm lb n aB0 aB1 aB2 aB3 aB4 aB5 fm fb (by omega) (by omega)) gX2_tell_X1_bans rfl 3 1 (by decide +kernel) rfl dX2_tell_45 [4, 5, 6, 1, 2, 3] 4 [] [] rfl rfl rfl ⟨by decide, by decide⟩ ⟨by decide, by decide⟩ rfl rfl rfl rfl rfl (Nat.le_of_ble_eq_true rfl) rfl rfl rfl rfl ?_
    refine z_if_eqB K 61 dX2_tell_48 (by decide) (fun c48 => ?_) (fun c48 => ?_)
    · refine z_aload_n K 0 dX2_tell_61 rfl ?_
      refine z_get (C := RX2) (T := TX2) (N := 4) (ci := 2) K iX2 rfl 0 rfl 1 (by decide) (by decide +kernel) rfl rfl dX2_tell_62 ?_
      refine z_get (C := RX1) (T := TX1) (N := 7) (ci := 1) K iX1 rfl 4 rfl 3 (by decide) (by decide +kernel) rfl rfl dX2_tell_65 ?_
      refine z_iload_n K 2 dX2_tell_68 rfl ?_
      refine z_dup2 K dX2_tell_69 rfl rfl ?_
      refine z_ialdN K 7 0 v (by omega) (by omega) rfl rfl dX2_tell_70 ?_
      refine z_iconst (v := 1) K dX2_tell_71 (by decide) ?_
      refine z_iload_n K 1 dX2_tell_72 rfl ?_
      refine z_ishl K dX2_tell_73 ?_
      refine z_ior K dX2_tell_74 ?_
      refine z_iastN K 7 0 v (by omega) (by omega) rfl rfl dX2_tell_75 (z_memA 0 rfl) (ws' := [(aX, .inr (2, [.ref aB, .ref aL, .ref aT, .int se])), (aB, .inr (0, [.int (nI n), .ref aB0, .ref aB1, .ref aB2, .ref aB3, .ref aB4, .ref aB5])), (aB0, .inl (cI, 20, .inl fm)), (aB1, .inl (cI, 20, .inl fb)), (aL, .inr (1, [.ref aL0, .ref aL1, .ref aL2, .ref aL3, .ref aL4, .ref aL5, .int hu])), (aL1, .inl (cI, 6, .inl lm)), (aL2, .inl (cI, 6, .inl lb)), (aL3, .inl (cI, 6, .inl (upd lt v ((lt v) ||| ((1 : Int32) <<< (nI f &&& 31))))))]) rfl ?_
      refine z_aload_n K 0 dX2_tell_76 rfl ?_
      refine z_get (C := RX2) (T := TX2) (N := 4) (ci := 2) K iX2 rfl 0 rfl 1 (by decide) (by decide +kernel) rfl rfl dX2_tell_77 ?_
      refine z_iconst (v := 1) K dX2_tell_80 (by decide) ?_
      refine z_iload_n K 1 dX2_tell_81 rfl ?_
      refine z_ishl K dX2_tell_82 ?_
      refine z_callV (ws' := [(aX, .inr (2, [.ref aB, .ref aL, .ref aT, .int se])), (aB, .inr (0, [.int (nI n), .ref aB0, .ref aB1, .ref aB2, .ref aB3, .ref aB4, .ref aB5])), (aB0, .inl (cI, 20, .inl fm)), (aB1, .inl (cI, 20, .inl fb)), (aL, .inr (1, [.ref aL0, .ref aL1, .ref aL2, .ref aL3, .ref aL4, .ref aL5, .int hu])), (aL1, .inl (cI, 6, .inl lm)), (aL2, .inl (cI, 6, .inl lb)), (aL3, .inl (cI, 6, .inl (upd lt v ((lt v) ||| ((1 : Int32) <<< (nI f &&& 31))))))]) (st' := [.int (cntS (upd lt v ((lt v) ||| ((1 : Int32) <<< (nI f &&& 31)))) ((1 : Int32) <<< (nI f &&& 31)) 6)]) (rest := []) (C := RX1) (T := TX1) (N := 7) K (m_X1_count l _ D cI cZ cQ cW aL ((1 : Int32) <<< (nI f &&& 31)) aL0 aL1 aL2 aL3 aL4 aL5 hu (upd lt v ((lt v) ||| ((1 : Int32) <<< (nI f &&& 31)))) ) gX2_tell_X1_count rfl 1 1 (by decide +kernel) rfl dX2_tell_83 [4, 7] 4 [] [] rfl rfl rfl ⟨by decide, by decide⟩ ⟨by decide, by decide⟩ rfl rfl rfl rfl rfl (Nat.le_of_ble_eq_true rfl) rfl rfl rfl rfl ?_
      rw [show (cntS (upd lt v ((lt v) ||| ((1 : Int32) <<< (nI f &&& 31)))) ((1 : Int32) <<< (nI f &&& 31)) 6) = (cntS (upd lt v (lt v ||| ((1 : Int32) <<< (nI f &&& 31)))) ((1 : Int32) <<< (nI f &&& 31)) 6) from (by first | (simp only [c22, c48, Bool.false_eq_true, if_false, if_true, ↓reduceIte]; done) | rfl | simp [c22, c48])]
      rw [show (upd lt v ((lt v) ||| ((1 : Int32) <<< (nI f &&& 31)))) = (upd lt v (lt v ||| ((1 : Int32) <<< (nI f &&& 31)))) from (by first | (simp only [c22, c48, Bool.false_eq_true, if_false, if_true, ↓reduceIte]; done) | rfl | simp [c22, c48])]
      exact z_iret K dX2_tell_86 (rfl) [7] rfl (by decide) (by decide)
    · first | exact absurd (hnt.symm.trans c48) (by decide) | exact absurd (hnb.symm.trans c48) (by decide)
  · first | exact absurd (hnt.symm.trans c22) (by decide) | exact absurd (hnb.symm.trans c22) (by decide)

set_option maxRecDepth 100000 in
set_option maxHeartbeats 4000000 in
theorem m_X2_forget (l : Launch) (G : Nat → Prop) (D : va_G) (cI cZ cQ cW : ClassId) (aX : Nat) (f : Nat) (v : Nat) (aB : Nat) (aL : Nat) (aT : Nat) (se : Int32) (n : Nat) (aB0 : Nat) (aB1 : Nat) (aB2 : Nat) (aB3 : Nat) (aB4 : Nat) (aB5 : Nat) (aL0 : Nat) (aL1 : Nat) (aL2 : Nat) (aL3 : Nat) (aL4 : Nat) (aL5 : Nat) (hu : Int32) (lt : Nat → Int32) (hn : n ≤ 20) (hf : f < n) (hv : v < 6) (ht : hs (lt v) (nI f) = true) : z_M l yX2_forget wsX2_forget { frames := 3, cells := 0, slots := 0, locals := 63 } G D [(cI, .int), (cZ, .boolean), (cQ, .array .int), (cW, .array .boolean)] [.ref aX, .int (nI f), .int (nI v)] ([(aX, .inr (2, [.ref aB, .ref aL, .ref aT, .int se])), (aB, .inr (0, [.int (nI n), .ref aB0, .ref aB1, .ref aB2, .ref aB3, .ref aB4, .ref aB5])), (aL, .inr (1, [.ref aL0, .ref aL1, .ref aL2, .ref aL3, .ref aL4, .ref aL5, .int hu])), (aL3, .inl (cI, 6, .inl lt))]) (some (.int (cntS (upd lt v (tu (lt v) (nI f))) ((1 : Int32) <<< (nI f &&& 31)) 6))) [(aL3, .inl (cI, 6, .inl (upd lt v (tu (lt v) (nI f)))))] 0 0 := by
  have iX2 : ∀ w ∈ u_ws RX2 TX2 4, w ∈ wsX2_forget := fun w h => List.mem_cons_of_mem _ (List.mem_append_left _ (List.mem_append_left _ (List.mem_append_left _ (List.mem_append_left _ (List.mem_append_right _ h)))))
  have iX1 : ∀ w ∈ u_ws RX1 TX1 7, w ∈ wsX2_forget := fun w h => List.mem_cons_of_mem _ (List.mem_append_left _ (List.mem_append_left _ (List.mem_append_left _ (List.mem_append_right _ h))))
  have iX0 : ∀ w ∈ u_ws RX0 TX0 7, w ∈ wsX2_forget := fun w h => List.mem_cons_of_mem _ (List.mem_append_left _ (List.mem_append_left _ (List.mem_append_right _ h)))
  refine z_ofW (cc := cX2_forget) (nL := 3) (ret := (some .int)) (by decide) rfl (Nat.le_of_ble_eq_true rfl) [3] rfl (lv0 := [(0, .ref aX), (1, .int (nI f)), (2, .int (nI v))]) rfl ?_
  intro p e s m args below meth c K
  refine z_aload_n K 0 dX2_forget_0 rfl ?_
  refine z_iload_n K 1 dX2_forget_1 rfl ?_
  refine z_callV (ws' := [(aX, .inr (2, [.ref aB, .ref aL, .ref aT, .int se])), (aB, .inr (0, [.int (nI n), .ref aB0, .ref aB1, .ref aB2, .ref aB3, .ref aB4, .ref aB5])), (aL, .inr (1, [.ref aL0, .ref aL1, .ref aL2, .ref aL3, .ref aL4, .ref aL5, .int hu])), (aL3, .inl (cI, 6, .inl lt))]) (st' := []) (rest := []) (C := RX2) (T := TX2) (N := 4) K (m_X2_needFable l _ D cI cZ cQ cW aX f aB aL aT se n aB0 aB1 aB2 aB3 aB4 aB5 (by omega) (by omega)) gX2_forget_X2_needFable rfl 1 2 (by decide +kernel) rfl dX2_forget_2 [0, 1] 0 [] [] rfl rfl rfl ⟨by decide, by decide⟩ ⟨by decide, by decide⟩ rfl rfl rfl rfl rfl (Nat.le_of_ble_eq_true rfl) rfl rfl rfl rfl ?_
  refine z_iload_n K 2 dX2_forget_5 rfl ?_
  refine z_callS (ws' := [(aX, .inr (2, [.ref aB, .ref aL, .ref aT, .int se])), (aB, .inr (0, [.int (nI n), .ref aB0, .ref aB1, .ref aB2, .ref aB3, .ref aB4, .ref aB5])), (aL, .inr (1, [.ref aL0, .ref aL1, .ref aL2, .ref aL3, .ref aL4, .ref aL5, .int hu])), (aL3, .inl (cI, 6, .inl lt))]) (st' := []) (rest := []) K (m_X2_needValley l _ D cI cZ cQ cW v (by omega)) gX2_forget_X2_needValley rfl 1 (by decide +kernel) dX2_forget_6 [] [] [] rfl rfl rfl ⟨by decide, by decide⟩ ⟨by decide, by decide⟩ rfl rfl rfl rfl (Nat.le_of_ble_eq_true rfl) rfl rfl rfl rfl ?_
  refine z_aload_n K 0 dX2_forget_9 rfl ?_
  refine z_get (C := RX2) (T := TX2) (N := 4) (ci := 2) K iX2 rfl 0 rfl 1 (by decide) (by decide +kernel) rfl rfl dX2_forget_10 ?_
  refine z_get (C := RX1) (T := TX1) (N := 7) (ci := 1) K iX1 rfl 2 rfl 3 (by decide) (by decide +kernel) rfl rfl dX2_forget_13 ?_
  refine z_iload_n K 2 dX2_forget_16 rfl ?_
  refine z_ialdN K 3 0 v (by omega) (by omega) rfl rfl dX2_forget_17 ?_
  refine z_iload_n K 1 dX2_forget_18 rfl ?_
  refine z_callS (ws' := [(aX, .inr (2, [.ref aB, .ref aL, .ref aT, .int se])), (aB, .inr (0, [.int (nI n), .ref aB0, .ref aB1, .ref aB2, .ref aB3, .ref aB4, .ref aB5])), (aL, .inr (1, [.ref aL0, .ref aL1, .ref aL2, .ref aL3, .ref aL4, .ref aL5, .int hu])), (aL3, .inl (cI, 6, .inl lt))]) (st' := [.int (z_b (hs (lt v) (nI f)))]) (rest := []) K (m_X2_has l _ D cI cZ cQ cW (lt v) (nI f) ) gX2_forget_X2_has rfl 2 (by decide +kernel) dX2_forget_19 [] [] [] rfl rfl rfl ⟨by decide, by decide⟩ ⟨by decide, by decide⟩ rfl rfl rfl rfl (Nat.le_of_ble_eq_true rfl) rfl rfl rfl rfl ?_
  refine z_if_neB K 35 dX2_forget_22 (by decide) (fun c22 => ?_) (fun c22 => ?_)
  · refine z_aload_n K 0 dX2_forget_35 rfl ?_
    refine z_get (C := RX2) (T := TX2) (N := 4) (ci := 2) K iX2 rfl 0 rfl 1 (by decide) (by decide +kernel) rfl rfl dX2_forget_36 ?_
    refine z_get (C := RX1) (T := TX1) (N := 7) (ci := 1) K iX1 rfl 2 rfl 3 (by decide) (by decide +kernel) rfl rfl dX2_forget_39 ?_
    refine z_iload_n K 2 dX2_forget_42 rfl ?_
    refine z_aload_n K 0 dX2_forget_43 rfl ?_
    refine z_get (C := RX2) (T := TX2) (N := 4) (ci := 2) K iX2 rfl 0 rfl 1 (by decide) (by decide +kernel) rfl rfl dX2_forget_44 ?_
    refine z_get (C := RX1) (T := TX1) (N := 7) (ci := 1) K iX1 rfl 2 rfl 3 (by decide) (by decide +kernel) rfl rfl dX2_forget_47 ?_
    refine z_iload_n K 2 dX2_forget_50 rfl ?_
    refine z_ialdN K 3 0 v (by omega) (by omega) rfl rfl dX2_forget_51 ?_
    refine z_iload_n K 1 dX2_forget_52 rfl ?_
    refine z_callS (ws' := [(aX, .inr (2, [.ref aB, .ref aL, .ref aT, .int se])), (aB, .inr (0, [.int (nI n), .ref aB0, .ref aB1, .ref aB2, .ref aB3, .ref aB4, .ref aB5])), (aL, .inr (1, [.ref aL0, .ref aL1, .ref aL2, .ref aL3, .ref aL4, .ref aL5, .int hu])), (aL3, .inl (cI, 6, .inl lt))]) (st' := [.int (tu (lt v) (nI f)), .int (nI v), .ref aL3]) (rest := [.int (nI v), .ref aL3]) K (m_X2_turned l _ D cI cZ cQ cW (lt v) (nI f) ) gX2_forget_X2_turned rfl 2 (by decide +kernel) dX2_forget_53 [] [] [] rfl rfl rfl ⟨by decide, by decide⟩ ⟨by decide, by decide⟩ rfl rfl rfl rfl (Nat.le_of_ble_eq_true rfl) rfl rfl rfl rfl ?_
    refine z_iastN K 3 0 v (by omega) (by omega) rfl rfl dX2_forget_56 (z_memA 0 rfl) (ws' := [(aX, .inr (2, [.ref aB, .ref aL, .ref aT, .int se])), (aB, .inr (0, [.int (nI n), .ref aB0, .ref aB1, .ref aB2, .ref aB3, .ref aB4, .ref aB5])), (aL, .inr (1, [.ref aL0, .ref aL1, .ref aL2, .ref aL3, .ref aL4, .ref aL5, .int hu])), (aL3, .inl (cI, 6, .inl (upd lt v (tu (lt v) (nI f)))))]) rfl ?_
    refine z_aload_n K 0 dX2_forget_57 rfl ?_
    refine z_get (C := RX2) (T := TX2) (N := 4) (ci := 2) K iX2 rfl 0 rfl 1 (by decide) (by decide +kernel) rfl rfl dX2_forget_58 ?_
    refine z_iconst (v := 1) K dX2_forget_61 (by decide) ?_
    refine z_iload_n K 1 dX2_forget_62 rfl ?_
    refine z_ishl K dX2_forget_63 ?_
    refine z_callV (ws' := [(aX, .inr (2, [.ref aB, .ref aL, .ref aT, .int se])), (aB, .inr (0, [.int (nI n), .ref aB0, .ref aB1, .ref aB2, .ref aB3, .ref aB4, .ref aB5])), (aL, .inr (1, [.ref aL0, .ref aL1, .ref aL2, .ref aL3, .ref aL4, .ref aL5, .int hu])), (aL3, .inl (cI, 6, .inl (upd lt v (tu (lt v) (nI f)))))]) (st' := [.int (cntS (upd lt v (tu (lt v) (nI f))) ((1 : Int32) <<< (nI f &&& 31)) 6)]) (rest := []) (C := RX1) (T := TX1) (N := 7) K (m_X1_count l _ D cI cZ cQ cW aL ((1 : Int32) <<< (nI f &&& 31)) aL0 aL1 aL2 aL3 aL4 aL5 hu (upd lt v (tu (lt v) (nI f))) ) gX2_forget_X1_count rfl 1 1 (by decide +kernel) rfl dX2_forget_64 [2, 3] 2 [] [] rfl rfl rfl ⟨by decide, by decide⟩ ⟨by decide, by decide⟩ rfl rfl rfl rfl rfl (Nat.le_of_ble_eq_true rfl) rfl rfl rfl rfl ?_
    exact z_iret K dX2_forget_67 (rfl) [3] rfl (by decide) (by decide)
  · first | exact absurd (ht.symm.trans c22) (by decide)

set_option maxRecDepth 100000 in
set_option maxHeartbeats 4000000 in
theorem m_X2_passSeasons (l : Launch) (G : Nat → Prop) (D : va_G) (cI cZ cQ cW : ClassId) (aX : Nat) (q : Nat) (aB : Nat) (aL : Nat) (aT : Nat) (se : Int32) (n : Nat) (aB0 : Nat) (aB1 : Nat) (aB2 : Nat) (aB3 : Nat) (aB4 : Nat) (aB5 : Nat) (fm : Nat → Int32) (fb : Nat → Int32) (fv : Nat → Int32) (aL0 : Nat) (aL1 : Nat) (aL2 : Nat) (aL3 : Nat) (aL4 : Nat) (aL5 : Nat) (hu : Int32) (lw : Nat → Int32) (lm : Nat → Int32) (lb : Nat → Int32) (lt : Nat → Int32) (la : Nat → Int32) (lk : Nat → Int32) (hn : n ≤ 20) (hq1 : 1 ≤ q) (hq : q ≤ 40) : z_M l yX2_passSeasons wsX2_passSeasons { frames := 4, cells := 0, slots := 0, locals := 95 } G D [(cI, .int), (cZ, .boolean), (cQ, .array .int), (cW, .array .boolean)] [.ref aX, .int (nI q)] ([(aX, .inr (2, [.ref aB, .ref aL, .ref aT, .int se])), (aB, .inr (0, [.int (nI n), .ref aB0, .ref aB1, .ref aB2, .ref aB3, .ref aB4, .ref aB5])), (aB0, .inl (cI, 20, .inl fm)), (aB1, .inl (cI, 20, .inl fb)), (aB4, .inl (cI, 20, .inl fv)), (aL, .inr (1, [.ref aL0, .ref aL1, .ref aL2, .ref aL3, .ref aL4, .ref aL5, .int hu])), (aL0, .inl (cI, 6, .inl lw)), (aL1, .inl (cI, 6, .inl lm)), (aL2, .inl (cI, 6, .inl lb)), (aL3, .inl (cI, 6, .inl lt)), (aL4, .inl (cI, 6, .inl la)), (aL5, .inl (cI, 6, .inl lk))]) (some (.int (cntS (livS lw lm (alS lm lb fm fb n la 6) fm fv n lt lk hu q).1 (allS n) 6))) [(aX, .inr (2, [.ref aB, .ref aL, .ref aT, .int (se + (nI q))])), (aL, .inr (1, [.ref aL0, .ref aL1, .ref aL2, .ref aL3, .ref aL4, .ref aL5, .int ((livS lw lm (alS lm lb fm fb n la 6) fm fv n lt lk hu q).2.2.1)])), (aL3, .inl (cI, 6, .inl ((livS lw lm (alS lm lb fm fb n la 6) fm fv n lt lk hu q).1))), (aL4, .inl (cI, 6, .inl (alS lm lb fm fb n la 6))), (aL5, .inl (cI, 6, .inl ((livS lw lm (alS lm lb fm fb n la 6) fm fv n lt lk hu q).2.1)))] 0 0 := by
  have iX2 : ∀ w ∈ u_ws RX2 TX2 4, w ∈ wsX2_passSeasons := fun w h => List.mem_cons_of_mem _ (List.mem_append_left _ (List.mem_append_left _ (List.mem_append_left _ (List.mem_append_right _ h))))
  have iX1 : ∀ w ∈ u_ws RX1 TX1 7, w ∈ wsX2_passSeasons := fun w h => List.mem_cons_of_mem _ (List.mem_append_left _ (List.mem_append_left _ (List.mem_append_right _ h)))
  have iX0 : ∀ w ∈ u_ws RX0 TX0 7, w ∈ wsX2_passSeasons := fun w h => List.mem_cons_of_mem _ (List.mem_append_left _ (List.mem_append_right _ h))
  refine z_ofW (cc := cX2_passSeasons) (nL := 2) (ret := (some .int)) (by decide) rfl (Nat.le_of_ble_eq_true rfl) [0, 5, 9, 10, 11] rfl (lv0 := [(0, .ref aX), (1, .int (nI q))]) rfl ?_
  intro p e s m args below meth c K
  refine z_iload_n K 1 dX2_passSeasons_0 rfl ?_
  refine z_bipush (v := 40) K dX2_passSeasons_1 (by decide) ?_
  refine z_callS (ws' := [(aX, .inr (2, [.ref aB, .ref aL, .ref aT, .int se])), (aB, .inr (0, [.int (nI n), .ref aB0, .ref aB1, .ref aB2, .ref aB3, .ref aB4, .ref aB5])), (aB0, .inl (cI, 20, .inl fm)), (aB1, .inl (cI, 20, .inl fb)), (aB4, .inl (cI, 20, .inl fv)), (aL, .inr (1, [.ref aL0, .ref aL1, .ref aL2, .ref aL3, .ref aL4, .ref aL5, .int hu])), (aL0, .inl (cI, 6, .inl lw)), (aL1, .inl (cI, 6, .inl lm)), (aL2, .inl (cI, 6, .inl lb)), (aL3, .inl (cI, 6, .inl lt)), (aL4, .inl (cI, 6, .inl la)), (aL5, .inl (cI, 6, .inl lk))]) (st' := []) (rest := []) K (m_X2_needSeasons l _ D cI cZ cQ cW q (by omega) (by omega)) gX2_passSeasons_X2_needSeasons rfl 2 (by decide +kernel) dX2_passSeasons_3 [] [] [] rfl rfl rfl ⟨by decide, by decide⟩ ⟨by decide, by decide⟩ rfl rfl rfl rfl (Nat.le_of_ble_eq_true rfl) rfl rfl rfl rfl ?_
  refine z_aload_n K 0 dX2_passSeasons_6 rfl ?_
  refine z_get (C := RX2) (T := TX2) (N := 4) (ci := 2) K iX2 rfl 0 rfl 1 (by decide) (by decide +kernel) rfl rfl dX2_passSeasons_7 ?_
  refine z_aload_n K 0 dX2_passSeasons_10 rfl ?_
  refine z_get (C := RX2) (T := TX2) (N := 4) (ci := 2) K iX2 rfl 0 rfl 0 (by decide) (by decide +kernel) rfl rfl dX2_passSeasons_11 ?_
  refine z_iload_n K 1 dX2_passSeasons_14 rfl ?_
  refine z_callV (ws' := [(aX, .inr (2, [.ref aB, .ref aL, .ref aT, .int se])), (aB, .inr (0, [.int (nI n), .ref aB0, .ref aB1, .ref aB2, .ref aB3, .ref aB4, .ref aB5])), (aB0, .inl (cI, 20, .inl fm)), (aB1, .inl (cI, 20, .inl fb)), (aB4, .inl (cI, 20, .inl fv)), (aL, .inr (1, [.ref aL0, .ref aL1, .ref aL2, .ref aL3, .ref aL4, .ref aL5, .int ((livS lw lm (alS lm lb fm fb n la 6) fm fv n lt lk hu q).2.2.1)])), (aL0, .inl (cI, 6, .inl lw)), (aL1, .inl (cI, 6, .inl lm)), (aL2, .inl (cI, 6, .inl lb)), (aL3, .inl (cI, 6, .inl ((livS lw lm (alS lm lb fm fb n la 6) fm fv n lt lk hu q).1))), (aL4, .inl (cI, 6, .inl (alS lm lb fm fb n la 6))), (aL5, .inl (cI, 6, .inl ((livS lw lm (alS lm lb fm fb n la 6) fm fv n lt lk hu q).2.1)))]) (st' := []) (rest := []) (C := RX1) (T := TX1) (N := 7) K (m_X1_live l _ D cI cZ cQ cW aL aB q aL0 aL1 aL2 aL3 aL4 aL5 hu lw lm lb lt la lk n aB0 aB1 aB2 aB3 aB4 aB5 fm fb fv (by omega) (by omega)) gX2_passSeasons_X1_live rfl 2 1 (by decide +kernel) rfl dX2_passSeasons_15 [5, 6, 7, 8, 9, 10, 11, 1, 2, 3, 4] 5 [5, 9, 10, 11] [1, 2, 3, 4] rfl rfl rfl ⟨by decide, by decide⟩ ⟨by decide, by decide⟩ rfl rfl rfl rfl rfl (Nat.le_of_ble_eq_true rfl) rfl rfl rfl rfl ?_
  refine z_aload_n K 0 dX2_passSeasons_18 rfl ?_
  refine z_dup K dX2_passSeasons_19 rfl ?_
  refine z_get (C := RX2) (T := TX2) (N := 4) (ci := 2) K iX2 rfl 0 rfl 3 (by decide) (by decide +kernel) rfl rfl dX2_passSeasons_20 ?_
  refine z_iload_n K 1 dX2_passSeasons_23 rfl ?_
  refine z_iadd K dX2_passSeasons_24 ?_
  refine z_put (C := RX2) (T := TX2) (N := 4) (ci := 2) K iX2 rfl tyX2 tyX2_ok nmX2 0 rfl 3 (by decide) (by decide +kernel) rfl rfl rfl rfl (Nat.le_of_ble_eq_true rfl) (z_memA 0 rfl) (ws' := [(aX, .inr (2, [.ref aB, .ref aL, .ref aT, .int (se + nI q)])), (aB, .inr (0, [.int (nI n), .ref aB0, .ref aB1, .ref aB2, .ref aB3, .ref aB4, .ref aB5])), (aB0, .inl (cI, 20, .inl fm)), (aB1, .inl (cI, 20, .inl fb)), (aB4, .inl (cI, 20, .inl fv)), (aL, .inr (1, [.ref aL0, .ref aL1, .ref aL2, .ref aL3, .ref aL4, .ref aL5, .int ((livS lw lm (alS lm lb fm fb n la 6) fm fv n lt lk hu q).2.2.1)])), (aL0, .inl (cI, 6, .inl lw)), (aL1, .inl (cI, 6, .inl lm)), (aL2, .inl (cI, 6, .inl lb)), (aL3, .inl (cI, 6, .inl ((livS lw lm (alS lm lb fm fb n la 6) fm fv n lt lk hu q).1))), (aL4, .inl (cI, 6, .inl (alS lm lb fm fb n la 6))), (aL5, .inl (cI, 6, .inl ((livS lw lm (alS lm lb fm fb n la 6) fm fv n lt lk hu q).2.1)))]) rfl dX2_passSeasons_25 ?_
  refine z_aload_n K 0 dX2_passSeasons_28 rfl ?_
  refine z_get (C := RX2) (T := TX2) (N := 4) (ci := 2) K iX2 rfl 0 rfl 1 (by decide) (by decide +kernel) rfl rfl dX2_passSeasons_29 ?_
  refine z_aload_n K 0 dX2_passSeasons_32 rfl ?_
  refine z_get (C := RX2) (T := TX2) (N := 4) (ci := 2) K iX2 rfl 0 rfl 0 (by decide) (by decide +kernel) rfl rfl dX2_passSeasons_33 ?_
  refine z_callV (ws' := [(aX, .inr (2, [.ref aB, .ref aL, .ref aT, .int (se + nI q)])), (aB, .inr (0, [.int (nI n), .ref aB0, .ref aB1, .ref aB2, .ref aB3, .ref aB4, .ref aB5])), (aB0, .inl (cI, 20, .inl fm)), (aB1, .inl (cI, 20, .inl fb)), (aB4, .inl (cI, 20, .inl fv)), (aL, .inr (1, [.ref aL0, .ref aL1, .ref aL2, .ref aL3, .ref aL4, .ref aL5, .int ((livS lw lm (alS lm lb fm fb n la 6) fm fv n lt lk hu q).2.2.1)])), (aL0, .inl (cI, 6, .inl lw)), (aL1, .inl (cI, 6, .inl lm)), (aL2, .inl (cI, 6, .inl lb)), (aL3, .inl (cI, 6, .inl ((livS lw lm (alS lm lb fm fb n la 6) fm fv n lt lk hu q).1))), (aL4, .inl (cI, 6, .inl (alS lm lb fm fb n la 6))), (aL5, .inl (cI, 6, .inl ((livS lw lm (alS lm lb fm fb n la 6) fm fv n lt lk hu q).2.1)))]) (st' := [.int (allS n), .ref aL]) (rest := [.ref aL]) (C := RX0) (T := TX0) (N := 7) K (m_X0_all l _ D cI cZ cQ cW aB n aB0 aB1 aB2 aB3 aB4 aB5 ) gX2_passSeasons_X0_all rfl 0 0 (by decide +kernel) rfl dX2_passSeasons_36 [1] 1 [] [] rfl rfl rfl ⟨by decide, by decide⟩ ⟨by decide, by decide⟩ rfl rfl rfl rfl rfl (Nat.le_of_ble_eq_true rfl) rfl rfl rfl rfl ?_
  refine z_callV (ws' := [(aX, .inr (2, [.ref aB, .ref aL, .ref aT, .int (se + nI q)])), (aB, .inr (0, [.int (nI n), .ref aB0, .ref aB1, .ref aB2, .ref aB3, .ref aB4, .ref aB5])), (aB0, .inl (cI, 20, .inl fm)), (aB1, .inl (cI, 20, .inl fb)), (aB4, .inl (cI, 20, .inl fv)), (aL, .inr (1, [.ref aL0, .ref aL1, .ref aL2, .ref aL3, .ref aL4, .ref aL5, .int ((livS lw lm (alS lm lb fm fb n la 6) fm fv n lt lk hu q).2.2.1)])), (aL0, .inl (cI, 6, .inl lw)), (aL1, .inl (cI, 6, .inl lm)), (aL2, .inl (cI, 6, .inl lb)), (aL3, .inl (cI, 6, .inl ((livS lw lm (alS lm lb fm fb n la 6) fm fv n lt lk hu q).1))), (aL4, .inl (cI, 6, .inl (alS lm lb fm fb n la 6))), (aL5, .inl (cI, 6, .inl ((livS lw lm (alS lm lb fm fb n la 6) fm fv n lt lk hu q).2.1)))]) (st' := [.int (cntS ((livS lw lm (alS lm lb fm fb n la 6) fm fv n lt lk hu q).1) (allS n) 6)]) (rest := []) (C := RX1) (T := TX1) (N := 7) K (m_X1_count l _ D cI cZ cQ cW aL (allS n) aL0 aL1 aL2 aL3 aL4 aL5 ((livS lw lm (alS lm lb fm fb n la 6) fm fv n lt lk hu q).2.2.1) ((livS lw lm (alS lm lb fm fb n la 6) fm fv n lt lk hu q).1) ) gX2_passSeasons_X1_count rfl 1 1 (by decide +kernel) rfl dX2_passSeasons_39 [5, 9] 5 [] [] rfl rfl rfl ⟨by decide, by decide⟩ ⟨by decide, by decide⟩ rfl rfl rfl rfl rfl (Nat.le_of_ble_eq_true rfl) rfl rfl rfl rfl ?_
  rw [show (cntS ((livS lw lm (alS lm lb fm fb n la 6) fm fv n lt lk hu q).1) (allS n) 6) = (cntS (livS lw lm (alS lm lb fm fb n la 6) fm fv n lt lk hu q).1 (allS n) 6) from rfl]
  rw [show (se + nI q) = (se + (nI q)) from rfl]
  exact z_iret K dX2_passSeasons_42 (rfl) [0, 5, 9, 10, 11] rfl (by decide) (by decide)
end
section
set_option maxRecDepth 100000 in
set_option maxHeartbeats 4000000 in
theorem m_X2_moralOf (l : Launch) (G : Nat → Prop) (D : va_G) (cI cZ cQ cW : ClassId) (aX : Nat) (f : Nat) (aB : Nat) (aL : Nat) (aT : Nat) (se : Int32) (n : Nat) (aB0 : Nat) (aB1 : Nat) (aB2 : Nat) (aB3 : Nat) (aB4 : Nat) (aB5 : Nat) (fm : Nat → Int32) (hn : n ≤ 20) (hf : f < n) : z_M l yX2_moralOf wsX2_moralOf { frames := 1, cells := 0, slots := 0, locals := 21 } G D [(cI, .int), (cZ, .boolean), (cQ, .array .int), (cW, .array .boolean)] [.ref aX, .int (nI f)] ([(aX, .inr (2, [.ref aB, .ref aL, .ref aT, .int se])), (aB, .inr (0, [.int (nI n), .ref aB0, .ref aB1, .ref aB2, .ref aB3, .ref aB4, .ref aB5])), (aB0, .inl (cI, 20, .inl fm))]) (some (.int (fm f))) [] 0 0 := by
  have iX2 : ∀ w ∈ u_ws RX2 TX2 4, w ∈ wsX2_moralOf := fun w h => List.mem_cons_of_mem _ (List.mem_append_left _ (List.mem_append_left _ (List.mem_append_right _ h)))
  have iX0 : ∀ w ∈ u_ws RX0 TX0 7, w ∈ wsX2_moralOf := fun w h => List.mem_cons_of_mem _ (List.mem_append_left _ (List.mem_append_right _ h))
  refine z_ofW (cc := cX2_moralOf) (nL := 2) (ret := (some .int)) (by decide) rfl (Nat.le_of_ble_eq_true rfl) [] rfl (lv0 := [(0, .ref aX), (1, .int (nI f))]) rfl ?_
  intro p e s m args below meth c K
  refine z_aload_n K 0 dX2_moralOf_0 rfl ?_
  refine z_iload_n K 1 dX2_moralOf_1 rfl ?_
  refine z_callV (ws' := [(aX, .inr (2, [.ref aB, .ref aL, .ref aT, .int se])), (aB, .inr (0, [.int (nI n), .ref aB0, .ref aB1, .ref aB2, .ref aB3, .ref aB4, .ref aB5])), (aB0, .inl (cI, 20, .inl fm))]) (st' := []) (rest := []) (C := RX2) (T := TX2) (N := 4) K (m_X2_needFable l _ D cI cZ cQ cW aX f aB aL aT se n aB0 aB1 aB2 aB3 aB4 aB5 (by omega) (by omega)) gX2_moralOf_X2_needFable rfl 1 2 (by decide +kernel) rfl dX2_moralOf_2 [0, 1] 0 [] [] rfl rfl rfl ⟨by decide, by decide⟩ ⟨by decide, by decide⟩ rfl rfl rfl rfl rfl (Nat.le_of_ble_eq_true rfl) rfl rfl rfl rfl ?_
  refine z_aload_n K 0 dX2_moralOf_5 rfl ?_
  refine z_get (C := RX2) (T := TX2) (N := 4) (ci := 2) K iX2 rfl 0 rfl 0 (by decide) (by decide +kernel) rfl rfl dX2_moralOf_6 ?_
  refine z_get (C := RX0) (T := TX0) (N := 7) (ci := 0) K iX0 rfl 1 rfl 1 (by decide) (by decide +kernel) rfl rfl dX2_moralOf_9 ?_
  refine z_iload_n K 1 dX2_moralOf_12 rfl ?_
  refine z_ialdN K 2 0 f (by omega) (by omega) rfl rfl dX2_moralOf_13 ?_
  exact z_iret K dX2_moralOf_14 (rfl) [] rfl (by decide) (by decide)

set_option maxRecDepth 100000 in
set_option maxHeartbeats 4000000 in
theorem m_X2_beastsOf (l : Launch) (G : Nat → Prop) (D : va_G) (cI cZ cQ cW : ClassId) (aX : Nat) (f : Nat) (aB : Nat) (aL : Nat) (aT : Nat) (se : Int32) (n : Nat) (aB0 : Nat) (aB1 : Nat) (aB2 : Nat) (aB3 : Nat) (aB4 : Nat) (aB5 : Nat) (fb : Nat → Int32) (hn : n ≤ 20) (hf : f < n) : z_M l yX2_beastsOf wsX2_beastsOf { frames := 2, cells := 0, slots := 0, locals := 40 } G D [(cI, .int), (cZ, .boolean), (cQ, .array .int), (cW, .array .boolean)] [.ref aX, .int (nI f)] ([(aX, .inr (2, [.ref aB, .ref aL, .ref aT, .int se])), (aB, .inr (0, [.int (nI n), .ref aB0, .ref aB1, .ref aB2, .ref aB3, .ref aB4, .ref aB5])), (aB1, .inl (cI, 20, .inl fb))]) (some (.int (pc (fb f)))) [] 0 0 := by
  have iX2 : ∀ w ∈ u_ws RX2 TX2 4, w ∈ wsX2_beastsOf := fun w h => List.mem_cons_of_mem _ (List.mem_append_left _ (List.mem_append_left _ (List.mem_append_right _ h)))
  have iX0 : ∀ w ∈ u_ws RX0 TX0 7, w ∈ wsX2_beastsOf := fun w h => List.mem_cons_of_mem _ (List.mem_append_left _ (List.mem_append_right _ h))
  refine z_ofW (cc := cX2_beastsOf) (nL := 2) (ret := (some .int)) (by decide) rfl (Nat.le_of_ble_eq_true rfl) [] rfl (lv0 := [(0, .ref aX), (1, .int (nI f))]) rfl ?_
  intro p e s m args below meth c K
  refine z_aload_n K 0 dX2_beastsOf_0 rfl ?_
  refine z_iload_n K 1 dX2_beastsOf_1 rfl ?_
  refine z_callV (ws' := [(aX, .inr (2, [.ref aB, .ref aL, .ref aT, .int se])), (aB, .inr (0, [.int (nI n), .ref aB0, .ref aB1, .ref aB2, .ref aB3, .ref aB4, .ref aB5])), (aB1, .inl (cI, 20, .inl fb))]) (st' := []) (rest := []) (C := RX2) (T := TX2) (N := 4) K (m_X2_needFable l _ D cI cZ cQ cW aX f aB aL aT se n aB0 aB1 aB2 aB3 aB4 aB5 (by omega) (by omega)) gX2_beastsOf_X2_needFable rfl 1 2 (by decide +kernel) rfl dX2_beastsOf_2 [0, 1] 0 [] [] rfl rfl rfl ⟨by decide, by decide⟩ ⟨by decide, by decide⟩ rfl rfl rfl rfl rfl (Nat.le_of_ble_eq_true rfl) rfl rfl rfl rfl ?_
  refine z_aload_n K 0 dX2_beastsOf_5 rfl ?_
  refine z_get (C := RX2) (T := TX2) (N := 4) (ci := 2) K iX2 rfl 0 rfl 0 (by decide) (by decide +kernel) rfl rfl dX2_beastsOf_6 ?_
  refine z_get (C := RX0) (T := TX0) (N := 7) (ci := 0) K iX0 rfl 1 rfl 2 (by decide) (by decide +kernel) rfl rfl dX2_beastsOf_9 ?_
  refine z_iload_n K 1 dX2_beastsOf_12 rfl ?_
  refine z_ialdN K 2 0 f (by omega) (by omega) rfl rfl dX2_beastsOf_13 ?_
  refine z_callS (ws' := [(aX, .inr (2, [.ref aB, .ref aL, .ref aT, .int se])), (aB, .inr (0, [.int (nI n), .ref aB0, .ref aB1, .ref aB2, .ref aB3, .ref aB4, .ref aB5])), (aB1, .inl (cI, 20, .inl fb))]) (st' := [.int (pc (fb f))]) (rest := []) K (m_X2_size l _ D cI cZ cQ cW (fb f) ) gX2_beastsOf_X2_size rfl 1 (by decide +kernel) dX2_beastsOf_14 [] [] [] rfl rfl rfl ⟨by decide, by decide⟩ ⟨by decide, by decide⟩ rfl rfl rfl rfl (Nat.le_of_ble_eq_true rfl) rfl rfl rfl rfl ?_
  exact z_iret K dX2_beastsOf_17 (rfl) [] rfl (by decide) (by decide)

set_option maxRecDepth 100000 in
set_option maxHeartbeats 4000000 in
theorem m_X2_homeOf (l : Launch) (G : Nat → Prop) (D : va_G) (cI cZ cQ cW : ClassId) (aX : Nat) (f : Nat) (aB : Nat) (aL : Nat) (aT : Nat) (se : Int32) (n : Nat) (aB0 : Nat) (aB1 : Nat) (aB2 : Nat) (aB3 : Nat) (aB4 : Nat) (aB5 : Nat) (fh : Nat → Int32) (hn : n ≤ 20) (hf : f < n) : z_M l yX2_homeOf wsX2_homeOf { frames := 1, cells := 0, slots := 0, locals := 21 } G D [(cI, .int), (cZ, .boolean), (cQ, .array .int), (cW, .array .boolean)] [.ref aX, .int (nI f)] ([(aX, .inr (2, [.ref aB, .ref aL, .ref aT, .int se])), (aB, .inr (0, [.int (nI n), .ref aB0, .ref aB1, .ref aB2, .ref aB3, .ref aB4, .ref aB5])), (aB2, .inl (cI, 20, .inl fh))]) (some (.int (fh f))) [] 0 0 := by
  have iX2 : ∀ w ∈ u_ws RX2 TX2 4, w ∈ wsX2_homeOf := fun w h => List.mem_cons_of_mem _ (List.mem_append_left _ (List.mem_append_left _ (List.mem_append_right _ h)))
  have iX0 : ∀ w ∈ u_ws RX0 TX0 7, w ∈ wsX2_homeOf := fun w h => List.mem_cons_of_mem _ (List.mem_append_left _ (List.mem_append_right _ h))
  refine z_ofW (cc := cX2_homeOf) (nL := 2) (ret := (some .int)) (by decide) rfl (Nat.le_of_ble_eq_true rfl) [] rfl (lv0 := [(0, .ref aX), (1, .int (nI f))]) rfl ?_
  intro p e s m args below meth c K
  refine z_aload_n K 0 dX2_homeOf_0 rfl ?_
  refine z_iload_n K 1 dX2_homeOf_1 rfl ?_
  refine z_callV (ws' := [(aX, .inr (2, [.ref aB, .ref aL, .ref aT, .int se])), (aB, .inr (0, [.int (nI n), .ref aB0, .ref aB1, .ref aB2, .ref aB3, .ref aB4, .ref aB5])), (aB2, .inl (cI, 20, .inl fh))]) (st' := []) (rest := []) (C := RX2) (T := TX2) (N := 4) K (m_X2_needFable l _ D cI cZ cQ cW aX f aB aL aT se n aB0 aB1 aB2 aB3 aB4 aB5 (by omega) (by omega)) gX2_homeOf_X2_needFable rfl 1 2 (by decide +kernel) rfl dX2_homeOf_2 [0, 1] 0 [] [] rfl rfl rfl ⟨by decide, by decide⟩ ⟨by decide, by decide⟩ rfl rfl rfl rfl rfl (Nat.le_of_ble_eq_true rfl) rfl rfl rfl rfl ?_
  refine z_aload_n K 0 dX2_homeOf_5 rfl ?_
  refine z_get (C := RX2) (T := TX2) (N := 4) (ci := 2) K iX2 rfl 0 rfl 0 (by decide) (by decide +kernel) rfl rfl dX2_homeOf_6 ?_
  refine z_get (C := RX0) (T := TX0) (N := 7) (ci := 0) K iX0 rfl 1 rfl 3 (by decide) (by decide +kernel) rfl rfl dX2_homeOf_9 ?_
  refine z_iload_n K 1 dX2_homeOf_12 rfl ?_
  refine z_ialdN K 2 0 f (by omega) (by omega) rfl rfl dX2_homeOf_13 ?_
  exact z_iret K dX2_homeOf_14 (rfl) [] rfl (by decide) (by decide)

set_option maxRecDepth 100000 in
set_option maxHeartbeats 4000000 in
theorem m_X2_parentOf (l : Launch) (G : Nat → Prop) (D : va_G) (cI cZ cQ cW : ClassId) (aX : Nat) (f : Nat) (aB : Nat) (aL : Nat) (aT : Nat) (se : Int32) (n : Nat) (aB0 : Nat) (aB1 : Nat) (aB2 : Nat) (aB3 : Nat) (aB4 : Nat) (aB5 : Nat) (fp : Nat → Int32) (hn : n ≤ 20) (hf : f < n) : z_M l yX2_parentOf wsX2_parentOf { frames := 1, cells := 0, slots := 0, locals := 21 } G D [(cI, .int), (cZ, .boolean), (cQ, .array .int), (cW, .array .boolean)] [.ref aX, .int (nI f)] ([(aX, .inr (2, [.ref aB, .ref aL, .ref aT, .int se])), (aB, .inr (0, [.int (nI n), .ref aB0, .ref aB1, .ref aB2, .ref aB3, .ref aB4, .ref aB5])), (aB3, .inl (cI, 20, .inl fp))]) (some (.int (fp f))) [] 0 0 := by
  have iX2 : ∀ w ∈ u_ws RX2 TX2 4, w ∈ wsX2_parentOf := fun w h => List.mem_cons_of_mem _ (List.mem_append_left _ (List.mem_append_left _ (List.mem_append_right _ h)))
  have iX0 : ∀ w ∈ u_ws RX0 TX0 7, w ∈ wsX2_parentOf := fun w h => List.mem_cons_of_mem _ (List.mem_append_left _ (List.mem_append_right _ h))
  refine z_ofW (cc := cX2_parentOf) (nL := 2) (ret := (some .int)) (by decide) rfl (Nat.le_of_ble_eq_true rfl) [] rfl (lv0 := [(0, .ref aX), (1, .int (nI f))]) rfl ?_
  intro p e s m args below meth c K
  refine z_aload_n K 0 dX2_parentOf_0 rfl ?_
  refine z_iload_n K 1 dX2_parentOf_1 rfl ?_
  refine z_callV (ws' := [(aX, .inr (2, [.ref aB, .ref aL, .ref aT, .int se])), (aB, .inr (0, [.int (nI n), .ref aB0, .ref aB1, .ref aB2, .ref aB3, .ref aB4, .ref aB5])), (aB3, .inl (cI, 20, .inl fp))]) (st' := []) (rest := []) (C := RX2) (T := TX2) (N := 4) K (m_X2_needFable l _ D cI cZ cQ cW aX f aB aL aT se n aB0 aB1 aB2 aB3 aB4 aB5 (by omega) (by omega)) gX2_parentOf_X2_needFable rfl 1 2 (by decide +kernel) rfl dX2_parentOf_2 [0, 1] 0 [] [] rfl rfl rfl ⟨by decide, by decide⟩ ⟨by decide, by decide⟩ rfl rfl rfl rfl rfl (Nat.le_of_ble_eq_true rfl) rfl rfl rfl rfl ?_
  refine z_aload_n K 0 dX2_parentOf_5 rfl ?_
  refine z_get (C := RX2) (T := TX2) (N := 4) (ci := 2) K iX2 rfl 0 rfl 0 (by decide) (by decide +kernel) rfl rfl dX2_parentOf_6 ?_
  refine z_get (C := RX0) (T := TX0) (N := 7) (ci := 0) K iX0 rfl 1 rfl 4 (by decide) (by decide +kernel) rfl rfl dX2_parentOf_9 ?_
  refine z_iload_n K 1 dX2_parentOf_12 rfl ?_
  refine z_ialdN K 2 0 f (by omega) (by omega) rfl rfl dX2_parentOf_13 ?_
  exact z_iret K dX2_parentOf_14 (rfl) [] rfl (by decide) (by decide)

set_option maxRecDepth 100000 in
set_option maxHeartbeats 4000000 in
theorem m_X2_variantsOf (l : Launch) (G : Nat → Prop) (D : va_G) (cI cZ cQ cW : ClassId) (aX : Nat) (f : Nat) (aB : Nat) (aL : Nat) (aT : Nat) (se : Int32) (n : Nat) (aB0 : Nat) (aB1 : Nat) (aB2 : Nat) (aB3 : Nat) (aB4 : Nat) (aB5 : Nat) (fv : Nat → Int32) (hn : n ≤ 20) (hf : f < n) : z_M l yX2_variantsOf wsX2_variantsOf { frames := 2, cells := 0, slots := 0, locals := 40 } G D [(cI, .int), (cZ, .boolean), (cQ, .array .int), (cW, .array .boolean)] [.ref aX, .int (nI f)] ([(aX, .inr (2, [.ref aB, .ref aL, .ref aT, .int se])), (aB, .inr (0, [.int (nI n), .ref aB0, .ref aB1, .ref aB2, .ref aB3, .ref aB4, .ref aB5])), (aB4, .inl (cI, 20, .inl fv))]) (some (.int (pc (fv f)))) [] 0 0 := by
  have iX2 : ∀ w ∈ u_ws RX2 TX2 4, w ∈ wsX2_variantsOf := fun w h => List.mem_cons_of_mem _ (List.mem_append_left _ (List.mem_append_left _ (List.mem_append_right _ h)))
  have iX0 : ∀ w ∈ u_ws RX0 TX0 7, w ∈ wsX2_variantsOf := fun w h => List.mem_cons_of_mem _ (List.mem_append_left _ (List.mem_append_right _ h))
  refine z_ofW (cc := cX2_variantsOf) (nL := 2) (ret := (some .int)) (by decide) rfl (Nat.le_of_ble_eq_true rfl) [] rfl (lv0 := [(0, .ref aX), (1, .int (nI f))]) rfl ?_
  intro p e s m args below meth c K
  refine z_aload_n K 0 dX2_variantsOf_0 rfl ?_
  refine z_iload_n K 1 dX2_variantsOf_1 rfl ?_
  refine z_callV (ws' := [(aX, .inr (2, [.ref aB, .ref aL, .ref aT, .int se])), (aB, .inr (0, [.int (nI n), .ref aB0, .ref aB1, .ref aB2, .ref aB3, .ref aB4, .ref aB5])), (aB4, .inl (cI, 20, .inl fv))]) (st' := []) (rest := []) (C := RX2) (T := TX2) (N := 4) K (m_X2_needFable l _ D cI cZ cQ cW aX f aB aL aT se n aB0 aB1 aB2 aB3 aB4 aB5 (by omega) (by omega)) gX2_variantsOf_X2_needFable rfl 1 2 (by decide +kernel) rfl dX2_variantsOf_2 [0, 1] 0 [] [] rfl rfl rfl ⟨by decide, by decide⟩ ⟨by decide, by decide⟩ rfl rfl rfl rfl rfl (Nat.le_of_ble_eq_true rfl) rfl rfl rfl rfl ?_
  refine z_aload_n K 0 dX2_variantsOf_5 rfl ?_
  refine z_get (C := RX2) (T := TX2) (N := 4) (ci := 2) K iX2 rfl 0 rfl 0 (by decide) (by decide +kernel) rfl rfl dX2_variantsOf_6 ?_
  refine z_get (C := RX0) (T := TX0) (N := 7) (ci := 0) K iX0 rfl 1 rfl 5 (by decide) (by decide +kernel) rfl rfl dX2_variantsOf_9 ?_
  refine z_iload_n K 1 dX2_variantsOf_12 rfl ?_
  refine z_ialdN K 2 0 f (by omega) (by omega) rfl rfl dX2_variantsOf_13 ?_
  refine z_callS (ws' := [(aX, .inr (2, [.ref aB, .ref aL, .ref aT, .int se])), (aB, .inr (0, [.int (nI n), .ref aB0, .ref aB1, .ref aB2, .ref aB3, .ref aB4, .ref aB5])), (aB4, .inl (cI, 20, .inl fv))]) (st' := [.int (pc (fv f))]) (rest := []) K (m_X2_size l _ D cI cZ cQ cW (fv f) ) gX2_variantsOf_X2_size rfl 1 (by decide +kernel) dX2_variantsOf_14 [] [] [] rfl rfl rfl ⟨by decide, by decide⟩ ⟨by decide, by decide⟩ rfl rfl rfl rfl (Nat.le_of_ble_eq_true rfl) rfl rfl rfl rfl ?_
  exact z_iret K dX2_variantsOf_17 (rfl) [] rfl (by decide) (by decide)

set_option maxRecDepth 100000 in
set_option maxHeartbeats 4000000 in
theorem m_X2_valleysOf (l : Launch) (G : Nat → Prop) (D : va_G) (cI cZ cQ cW : ClassId) (aX : Nat) (f : Nat) (aB : Nat) (aL : Nat) (aT : Nat) (se : Int32) (n : Nat) (aB0 : Nat) (aB1 : Nat) (aB2 : Nat) (aB3 : Nat) (aB4 : Nat) (aB5 : Nat) (aL0 : Nat) (aL1 : Nat) (aL2 : Nat) (aL3 : Nat) (aL4 : Nat) (aL5 : Nat) (hu : Int32) (lt : Nat → Int32) (hn : n ≤ 20) (hf : f < n) : z_M l yX2_valleysOf wsX2_valleysOf { frames := 3, cells := 0, slots := 0, locals := 63 } G D [(cI, .int), (cZ, .boolean), (cQ, .array .int), (cW, .array .boolean)] [.ref aX, .int (nI f)] ([(aX, .inr (2, [.ref aB, .ref aL, .ref aT, .int se])), (aB, .inr (0, [.int (nI n), .ref aB0, .ref aB1, .ref aB2, .ref aB3, .ref aB4, .ref aB5])), (aL, .inr (1, [.ref aL0, .ref aL1, .ref aL2, .ref aL3, .ref aL4, .ref aL5, .int hu])), (aL3, .inl (cI, 6, .inl lt))]) (some (.int (cntS lt ((1 : Int32) <<< (nI f &&& 31)) 6))) [] 0 0 := by
  have iX2 : ∀ w ∈ u_ws RX2 TX2 4, w ∈ wsX2_valleysOf := fun w h => List.mem_cons_of_mem _ (List.mem_append_left _ (List.mem_append_left _ (List.mem_append_left _ (List.mem_append_right _ h))))
  have iX0 : ∀ w ∈ u_ws RX0 TX0 7, w ∈ wsX2_valleysOf := fun w h => List.mem_cons_of_mem _ (List.mem_append_left _ (List.mem_append_left _ (List.mem_append_right _ h)))
  have iX1 : ∀ w ∈ u_ws RX1 TX1 7, w ∈ wsX2_valleysOf := fun w h => List.mem_cons_of_mem _ (List.mem_append_left _ (List.mem_append_right _ h))
  refine z_ofW (cc := cX2_valleysOf) (nL := 2) (ret := (some .int)) (by decide) rfl (Nat.le_of_ble_eq_true rfl) [] rfl (lv0 := [(0, .ref aX), (1, .int (nI f))]) rfl ?_
  intro p e s m args below meth c K
  refine z_aload_n K 0 dX2_valleysOf_0 rfl ?_
  refine z_iload_n K 1 dX2_valleysOf_1 rfl ?_
  refine z_callV (ws' := [(aX, .inr (2, [.ref aB, .ref aL, .ref aT, .int se])), (aB, .inr (0, [.int (nI n), .ref aB0, .ref aB1, .ref aB2, .ref aB3, .ref aB4, .ref aB5])), (aL, .inr (1, [.ref aL0, .ref aL1, .ref aL2, .ref aL3, .ref aL4, .ref aL5, .int hu])), (aL3, .inl (cI, 6, .inl lt))]) (st' := []) (rest := []) (C := RX2) (T := TX2) (N := 4) K (m_X2_needFable l _ D cI cZ cQ cW aX f aB aL aT se n aB0 aB1 aB2 aB3 aB4 aB5 (by omega) (by omega)) gX2_valleysOf_X2_needFable rfl 1 2 (by decide +kernel) rfl dX2_valleysOf_2 [0, 1] 0 [] [] rfl rfl rfl ⟨by decide, by decide⟩ ⟨by decide, by decide⟩ rfl rfl rfl rfl rfl (Nat.le_of_ble_eq_true rfl) rfl rfl rfl rfl ?_
  refine z_aload_n K 0 dX2_valleysOf_5 rfl ?_
  refine z_get (C := RX2) (T := TX2) (N := 4) (ci := 2) K iX2 rfl 0 rfl 1 (by decide) (by decide +kernel) rfl rfl dX2_valleysOf_6 ?_
  refine z_iconst (v := 1) K dX2_valleysOf_9 (by decide) ?_
  refine z_iload_n K 1 dX2_valleysOf_10 rfl ?_
  refine z_ishl K dX2_valleysOf_11 ?_
  refine z_callV (ws' := [(aX, .inr (2, [.ref aB, .ref aL, .ref aT, .int se])), (aB, .inr (0, [.int (nI n), .ref aB0, .ref aB1, .ref aB2, .ref aB3, .ref aB4, .ref aB5])), (aL, .inr (1, [.ref aL0, .ref aL1, .ref aL2, .ref aL3, .ref aL4, .ref aL5, .int hu])), (aL3, .inl (cI, 6, .inl lt))]) (st' := [.int (cntS lt ((1 : Int32) <<< (nI f &&& 31)) 6)]) (rest := []) (C := RX1) (T := TX1) (N := 7) K (m_X1_count l _ D cI cZ cQ cW aL ((1 : Int32) <<< (nI f &&& 31)) aL0 aL1 aL2 aL3 aL4 aL5 hu lt ) gX2_valleysOf_X1_count rfl 1 1 (by decide +kernel) rfl dX2_valleysOf_12 [2, 3] 2 [] [] rfl rfl rfl ⟨by decide, by decide⟩ ⟨by decide, by decide⟩ rfl rfl rfl rfl rfl (Nat.le_of_ble_eq_true rfl) rfl rfl rfl rfl ?_
  exact z_iret K dX2_valleysOf_15 (rfl) [] rfl (by decide) (by decide)

set_option maxRecDepth 100000 in
set_option maxHeartbeats 4000000 in
theorem m_X2_hasBeast (l : Launch) (G : Nat → Prop) (D : va_G) (cI cZ cQ cW : ClassId) (aX : Nat) (f : Nat) (b : Nat) (aB : Nat) (aL : Nat) (aT : Nat) (se : Int32) (n : Nat) (aB0 : Nat) (aB1 : Nat) (aB2 : Nat) (aB3 : Nat) (aB4 : Nat) (aB5 : Nat) (fb : Nat → Int32) (hn : n ≤ 20) (hf : f < n) (hb : b < 12) : z_M l yX2_hasBeast wsX2_hasBeast { frames := 1, cells := 0, slots := 0, locals := 21 } G D [(cI, .int), (cZ, .boolean), (cQ, .array .int), (cW, .array .boolean)] [.ref aX, .int (nI f), .int (nI b)] ([(aX, .inr (2, [.ref aB, .ref aL, .ref aT, .int se])), (aB, .inr (0, [.int (nI n), .ref aB0, .ref aB1, .ref aB2, .ref aB3, .ref aB4, .ref aB5])), (aB1, .inl (cI, 20, .inl fb))]) (some (.int (z_b (hs (fb f) (nI b))))) [] 0 0 := by
  have iX2 : ∀ w ∈ u_ws RX2 TX2 4, w ∈ wsX2_hasBeast := fun w h => List.mem_cons_of_mem _ (List.mem_append_left _ (List.mem_append_left _ (List.mem_append_right _ h)))
  have iX0 : ∀ w ∈ u_ws RX0 TX0 7, w ∈ wsX2_hasBeast := fun w h => List.mem_cons_of_mem _ (List.mem_append_left _ (List.mem_append_right _ h))
  refine z_ofW (cc := cX2_hasBeast) (nL := 3) (ret := (some .boolean)) (by decide) rfl (Nat.le_of_ble_eq_true rfl) [] rfl (lv0 := [(0, .ref aX), (1, .int (nI f)), (2, .int (nI b))]) rfl ?_
  intro p e s m args below meth c K
  refine z_aload_n K 0 dX2_hasBeast_0 rfl ?_
  refine z_iload_n K 1 dX2_hasBeast_1 rfl ?_
  refine z_callV (ws' := [(aX, .inr (2, [.ref aB, .ref aL, .ref aT, .int se])), (aB, .inr (0, [.int (nI n), .ref aB0, .ref aB1, .ref aB2, .ref aB3, .ref aB4, .ref aB5])), (aB1, .inl (cI, 20, .inl fb))]) (st' := []) (rest := []) (C := RX2) (T := TX2) (N := 4) K (m_X2_needFable l _ D cI cZ cQ cW aX f aB aL aT se n aB0 aB1 aB2 aB3 aB4 aB5 (by omega) (by omega)) gX2_hasBeast_X2_needFable rfl 1 2 (by decide +kernel) rfl dX2_hasBeast_2 [0, 1] 0 [] [] rfl rfl rfl ⟨by decide, by decide⟩ ⟨by decide, by decide⟩ rfl rfl rfl rfl rfl (Nat.le_of_ble_eq_true rfl) rfl rfl rfl rfl ?_
  refine z_iload_n K 2 dX2_hasBeast_5 rfl ?_
  refine z_callS (ws' := [(aX, .inr (2, [.ref aB, .ref aL, .ref aT, .int se])), (aB, .inr (0, [.int (nI n), .ref aB0, .ref aB1, .ref aB2, .ref aB3, .ref aB4, .ref aB5])), (aB1, .inl (cI, 20, .inl fb))]) (st' := []) (rest := []) K (m_X2_needBeast l _ D cI cZ cQ cW b (by omega)) gX2_hasBeast_X2_needBeast rfl 1 (by decide +kernel) dX2_hasBeast_6 [] [] [] rfl rfl rfl ⟨by decide, by decide⟩ ⟨by decide, by decide⟩ rfl rfl rfl rfl (Nat.le_of_ble_eq_true rfl) rfl rfl rfl rfl ?_
  refine z_aload_n K 0 dX2_hasBeast_9 rfl ?_
  refine z_get (C := RX2) (T := TX2) (N := 4) (ci := 2) K iX2 rfl 0 rfl 0 (by decide) (by decide +kernel) rfl rfl dX2_hasBeast_10 ?_
  refine z_get (C := RX0) (T := TX0) (N := 7) (ci := 0) K iX0 rfl 1 rfl 2 (by decide) (by decide +kernel) rfl rfl dX2_hasBeast_13 ?_
  refine z_iload_n K 1 dX2_hasBeast_16 rfl ?_
  refine z_ialdN K 2 0 f (by omega) (by omega) rfl rfl dX2_hasBeast_17 ?_
  refine z_iload_n K 2 dX2_hasBeast_18 rfl ?_
  refine z_callS (ws' := [(aX, .inr (2, [.ref aB, .ref aL, .ref aT, .int se])), (aB, .inr (0, [.int (nI n), .ref aB0, .ref aB1, .ref aB2, .ref aB3, .ref aB4, .ref aB5])), (aB1, .inl (cI, 20, .inl fb))]) (st' := [.int (z_b (hs (fb f) (nI b)))]) (rest := []) K (m_X2_has l _ D cI cZ cQ cW (fb f) (nI b) ) gX2_hasBeast_X2_has rfl 2 (by decide +kernel) dX2_hasBeast_19 [] [] [] rfl rfl rfl ⟨by decide, by decide⟩ ⟨by decide, by decide⟩ rfl rfl rfl rfl (Nat.le_of_ble_eq_true rfl) rfl rfl rfl rfl ?_
  exact z_zret K dX2_hasBeast_22 (rfl) [] rfl (by decide) (by decide)

set_option maxRecDepth 100000 in
set_option maxHeartbeats 4000000 in
theorem m_X2_isTold (l : Launch) (G : Nat → Prop) (D : va_G) (cI cZ cQ cW : ClassId) (aX : Nat) (f : Nat) (v : Nat) (aB : Nat) (aL : Nat) (aT : Nat) (se : Int32) (n : Nat) (aB0 : Nat) (aB1 : Nat) (aB2 : Nat) (aB3 : Nat) (aB4 : Nat) (aB5 : Nat) (aL0 : Nat) (aL1 : Nat) (aL2 : Nat) (aL3 : Nat) (aL4 : Nat) (aL5 : Nat) (hu : Int32) (lt : Nat → Int32) (hn : n ≤ 20) (hf : f < n) (hv : v < 6) : z_M l yX2_isTold wsX2_isTold { frames := 1, cells := 0, slots := 0, locals := 21 } G D [(cI, .int), (cZ, .boolean), (cQ, .array .int), (cW, .array .boolean)] [.ref aX, .int (nI f), .int (nI v)] ([(aX, .inr (2, [.ref aB, .ref aL, .ref aT, .int se])), (aB, .inr (0, [.int (nI n), .ref aB0, .ref aB1, .ref aB2, .ref aB3, .ref aB4, .ref aB5])), (aL, .inr (1, [.ref aL0, .ref aL1, .ref aL2, .ref aL3, .ref aL4, .ref aL5, .int hu])), (aL3, .inl (cI, 6, .inl lt))]) (some (.int (z_b (hs (lt v) (nI f))))) [] 0 0 := by
  have iX2 : ∀ w ∈ u_ws RX2 TX2 4, w ∈ wsX2_isTold := fun w h => List.mem_cons_of_mem _ (List.mem_append_left _ (List.mem_append_left _ (List.mem_append_left _ (List.mem_append_right _ h))))
  have iX1 : ∀ w ∈ u_ws RX1 TX1 7, w ∈ wsX2_isTold := fun w h => List.mem_cons_of_mem _ (List.mem_append_left _ (List.mem_append_left _ (List.mem_append_right _ h)))
  have iX0 : ∀ w ∈ u_ws RX0 TX0 7, w ∈ wsX2_isTold := fun w h => List.mem_cons_of_mem _ (List.mem_append_left _ (List.mem_append_right _ h))
  refine z_ofW (cc := cX2_isTold) (nL := 3) (ret := (some .boolean)) (by decide) rfl (Nat.le_of_ble_eq_true rfl) [] rfl (lv0 := [(0, .ref aX), (1, .int (nI f)), (2, .int (nI v))]) rfl ?_
  intro p e s m args below meth c K
  refine z_aload_n K 0 dX2_isTold_0 rfl ?_
  refine z_iload_n K 1 dX2_isTold_1 rfl ?_
  refine z_callV (ws' := [(aX, .inr (2, [.ref aB, .ref aL, .ref aT, .int se])), (aB, .inr (0, [.int (nI n), .ref aB0, .ref aB1, .ref aB2, .ref aB3, .ref aB4, .ref aB5])), (aL, .inr (1, [.ref aL0, .ref aL1, .ref aL2, .ref aL3, .ref aL4, .ref aL5, .int hu])), (aL3, .inl (cI, 6, .inl lt))]) (st' := []) (rest := []) (C := RX2) (T := TX2) (N := 4) K (m_X2_needFable l _ D cI cZ cQ cW aX f aB aL aT se n aB0 aB1 aB2 aB3 aB4 aB5 (by omega) (by omega)) gX2_isTold_X2_needFable rfl 1 2 (by decide +kernel) rfl dX2_isTold_2 [0, 1] 0 [] [] rfl rfl rfl ⟨by decide, by decide⟩ ⟨by decide, by decide⟩ rfl rfl rfl rfl rfl (Nat.le_of_ble_eq_true rfl) rfl rfl rfl rfl ?_
  refine z_iload_n K 2 dX2_isTold_5 rfl ?_
  refine z_callS (ws' := [(aX, .inr (2, [.ref aB, .ref aL, .ref aT, .int se])), (aB, .inr (0, [.int (nI n), .ref aB0, .ref aB1, .ref aB2, .ref aB3, .ref aB4, .ref aB5])), (aL, .inr (1, [.ref aL0, .ref aL1, .ref aL2, .ref aL3, .ref aL4, .ref aL5, .int hu])), (aL3, .inl (cI, 6, .inl lt))]) (st' := []) (rest := []) K (m_X2_needValley l _ D cI cZ cQ cW v (by omega)) gX2_isTold_X2_needValley rfl 1 (by decide +kernel) dX2_isTold_6 [] [] [] rfl rfl rfl ⟨by decide, by decide⟩ ⟨by decide, by decide⟩ rfl rfl rfl rfl (Nat.le_of_ble_eq_true rfl) rfl rfl rfl rfl ?_
  refine z_aload_n K 0 dX2_isTold_9 rfl ?_
  refine z_get (C := RX2) (T := TX2) (N := 4) (ci := 2) K iX2 rfl 0 rfl 1 (by decide) (by decide +kernel) rfl rfl dX2_isTold_10 ?_
  refine z_get (C := RX1) (T := TX1) (N := 7) (ci := 1) K iX1 rfl 2 rfl 3 (by decide) (by decide +kernel) rfl rfl dX2_isTold_13 ?_
  refine z_iload_n K 2 dX2_isTold_16 rfl ?_
  refine z_ialdN K 3 0 v (by omega) (by omega) rfl rfl dX2_isTold_17 ?_
  refine z_iload_n K 1 dX2_isTold_18 rfl ?_
  refine z_callS (ws' := [(aX, .inr (2, [.ref aB, .ref aL, .ref aT, .int se])), (aB, .inr (0, [.int (nI n), .ref aB0, .ref aB1, .ref aB2, .ref aB3, .ref aB4, .ref aB5])), (aL, .inr (1, [.ref aL0, .ref aL1, .ref aL2, .ref aL3, .ref aL4, .ref aL5, .int hu])), (aL3, .inl (cI, 6, .inl lt))]) (st' := [.int (z_b (hs (lt v) (nI f)))]) (rest := []) K (m_X2_has l _ D cI cZ cQ cW (lt v) (nI f) ) gX2_isTold_X2_has rfl 2 (by decide +kernel) dX2_isTold_19 [] [] [] rfl rfl rfl ⟨by decide, by decide⟩ ⟨by decide, by decide⟩ rfl rfl rfl rfl (Nat.le_of_ble_eq_true rfl) rfl rfl rfl rfl ?_
  exact z_zret K dX2_isTold_22 (rfl) [] rfl (by decide) (by decide)

set_option maxRecDepth 100000 in
set_option maxHeartbeats 4000000 in
theorem m_X2_isBanned (l : Launch) (G : Nat → Prop) (D : va_G) (cI cZ cQ cW : ClassId) (aX : Nat) (f : Nat) (v : Nat) (aB : Nat) (aL : Nat) (aT : Nat) (se : Int32) (n : Nat) (aB0 : Nat) (aB1 : Nat) (aB2 : Nat) (aB3 : Nat) (aB4 : Nat) (aB5 : Nat) (fm : Nat → Int32) (fb : Nat → Int32) (aL0 : Nat) (aL1 : Nat) (aL2 : Nat) (aL3 : Nat) (aL4 : Nat) (aL5 : Nat) (hu : Int32) (lm : Nat → Int32) (lb : Nat → Int32) (hn : n ≤ 20) (hf : f < n) (hv : v < 6) : z_M l yX2_isBanned wsX2_isBanned { frames := 2, cells := 0, slots := 0, locals := 44 } G D [(cI, .int), (cZ, .boolean), (cQ, .array .int), (cW, .array .boolean)] [.ref aX, .int (nI f), .int (nI v)] ([(aX, .inr (2, [.ref aB, .ref aL, .ref aT, .int se])), (aB, .inr (0, [.int (nI n), .ref aB0, .ref aB1, .ref aB2, .ref aB3, .ref aB4, .ref aB5])), (aB0, .inl (cI, 20, .inl fm)), (aB1, .inl (cI, 20, .inl fb)), (aL, .inr (1, [.ref aL0, .ref aL1, .ref aL2, .ref aL3, .ref aL4, .ref aL5, .int hu])), (aL1, .inl (cI, 6, .inl lm)), (aL2, .inl (cI, 6, .inl lb))]) (some (.int (z_b (ban lm lb fm fb f v)))) [] 0 0 := by
  have iX2 : ∀ w ∈ u_ws RX2 TX2 4, w ∈ wsX2_isBanned := fun w h => List.mem_cons_of_mem _ (List.mem_append_left _ (List.mem_append_left _ (List.mem_append_left _ (List.mem_append_right _ h))))
  have iX0 : ∀ w ∈ u_ws RX0 TX0 7, w ∈ wsX2_isBanned := fun w h => List.mem_cons_of_mem _ (List.mem_append_left _ (List.mem_append_left _ (List.mem_append_right _ h)))
  have iX1 : ∀ w ∈ u_ws RX1 TX1 7, w ∈ wsX2_isBanned := fun w h => List.mem_cons_of_mem _ (List.mem_append_left _ (List.mem_append_right _ h))
  refine z_ofW (cc := cX2_isBanned) (nL := 3) (ret := (some .boolean)) (by decide) rfl (Nat.le_of_ble_eq_true rfl) [] rfl (lv0 := [(0, .ref aX), (1, .int (nI f)), (2, .int (nI v))]) rfl ?_
  intro p e s m args below meth c K
  refine z_aload_n K 0 dX2_isBanned_0 rfl ?_
  refine z_iload_n K 1 dX2_isBanned_1 rfl ?_
  refine z_callV (ws' := [(aX, .inr (2, [.ref aB, .ref aL, .ref aT, .int se])), (aB, .inr (0, [.int (nI n), .ref aB0, .ref aB1, .ref aB2, .ref aB3, .ref aB4, .ref aB5])), (aB0, .inl (cI, 20, .inl fm)), (aB1, .inl (cI, 20, .inl fb)), (aL, .inr (1, [.ref aL0, .ref aL1, .ref aL2, .ref aL3, .ref aL4, .ref aL5, .int hu])), (aL1, .inl (cI, 6, .inl lm)), (aL2, .inl (cI, 6, .inl lb))]) (st' := []) (rest := []) (C := RX2) (T := TX2) (N := 4) K (m_X2_needFable l _ D cI cZ cQ cW aX f aB aL aT se n aB0 aB1 aB2 aB3 aB4 aB5 (by omega) (by omega)) gX2_isBanned_X2_needFable rfl 1 2 (by decide +kernel) rfl dX2_isBanned_2 [0, 1] 0 [] [] rfl rfl rfl ⟨by decide, by decide⟩ ⟨by decide, by decide⟩ rfl rfl rfl rfl rfl (Nat.le_of_ble_eq_true rfl) rfl rfl rfl rfl ?_
  refine z_iload_n K 2 dX2_isBanned_5 rfl ?_
  refine z_callS (ws' := [(aX, .inr (2, [.ref aB, .ref aL, .ref aT, .int se])), (aB, .inr (0, [.int (nI n), .ref aB0, .ref aB1, .ref aB2, .ref aB3, .ref aB4, .ref aB5])), (aB0, .inl (cI, 20, .inl fm)), (aB1, .inl (cI, 20, .inl fb)), (aL, .inr (1, [.ref aL0, .ref aL1, .ref aL2, .ref aL3, .ref aL4, .ref aL5, .int hu])), (aL1, .inl (cI, 6, .inl lm)), (aL2, .inl (cI, 6, .inl lb))]) (st' := []) (rest := []) K (m_X2_needValley l _ D cI cZ cQ cW v (by omega)) gX2_isBanned_X2_needValley rfl 1 (by decide +kernel) dX2_isBanned_6 [] [] [] rfl rfl rfl ⟨by decide, by decide⟩ ⟨by decide, by decide⟩ rfl rfl rfl rfl (Nat.le_of_ble_eq_true rfl) rfl rfl rfl rfl ?_
  refine z_aload_n K 0 dX2_isBanned_9 rfl ?_
  refine z_get (C := RX2) (T := TX2) (N := 4) (ci := 2) K iX2 rfl 0 rfl 1 (by decide) (by decide +kernel) rfl rfl dX2_isBanned_10 ?_
  refine z_aload_n K 0 dX2_isBanned_13 rfl ?_
  refine z_get (C := RX2) (T := TX2) (N := 4) (ci := 2) K iX2 rfl 0 rfl 0 (by decide) (by decide +kernel) rfl rfl dX2_isBanned_14 ?_
  refine z_iload_n K 1 dX2_isBanned_17 rfl ?_
  refine z_iload_n K 2 dX2_isBanned_18 rfl ?_
  refine z_callV (ws' := [(aX, .inr (2, [.ref aB, .ref aL, .ref aT, .int se])), (aB, .inr (0, [.int (nI n), .ref aB0, .ref aB1, .ref aB2, .ref aB3, .ref aB4, .ref aB5])), (aB0, .inl (cI, 20, .inl fm)), (aB1, .inl (cI, 20, .inl fb)), (aL, .inr (1, [.ref aL0, .ref aL1, .ref aL2, .ref aL3, .ref aL4, .ref aL5, .int hu])), (aL1, .inl (cI, 6, .inl lm)), (aL2, .inl (cI, 6, .inl lb))]) (st' := [.int (z_b (ban lm lb fm fb f v))]) (rest := []) (C := RX1) (T := TX1) (N := 7) K (m_X1_bans l _ D cI cZ cQ cW aL aB f v aL0 aL1 aL2 aL3 aL4 aL5 hu lm lb n aB0 aB1 aB2 aB3 aB4 aB5 fm fb (by omega) (by omega)) gX2_isBanned_X1_bans rfl 3 1 (by decide +kernel) rfl dX2_isBanned_19 [4, 5, 6, 1, 2, 3] 4 [] [] rfl rfl rfl ⟨by decide, by decide⟩ ⟨by decide, by decide⟩ rfl rfl rfl rfl rfl (Nat.le_of_ble_eq_true rfl) rfl rfl rfl rfl ?_
  exact z_zret K dX2_isBanned_22 (rfl) [] rfl (by decide) (by decide)

set_option maxRecDepth 100000 in
set_option maxHeartbeats 4000000 in
theorem m_X2_toldIn (l : Launch) (G : Nat → Prop) (D : va_G) (cI cZ cQ cW : ClassId) (aX : Nat) (v : Nat) (aB : Nat) (aL : Nat) (aT : Nat) (se : Int32) (aL0 : Nat) (aL1 : Nat) (aL2 : Nat) (aL3 : Nat) (aL4 : Nat) (aL5 : Nat) (hu : Int32) (lt : Nat → Int32) (hv : v < 6) : z_M l yX2_toldIn wsX2_toldIn { frames := 2, cells := 0, slots := 0, locals := 40 } G D [(cI, .int), (cZ, .boolean), (cQ, .array .int), (cW, .array .boolean)] [.ref aX, .int (nI v)] ([(aX, .inr (2, [.ref aB, .ref aL, .ref aT, .int se])), (aL, .inr (1, [.ref aL0, .ref aL1, .ref aL2, .ref aL3, .ref aL4, .ref aL5, .int hu])), (aL3, .inl (cI, 6, .inl lt))]) (some (.int (pc (lt v)))) [] 0 0 := by
  have iX2 : ∀ w ∈ u_ws RX2 TX2 4, w ∈ wsX2_toldIn := fun w h => List.mem_cons_of_mem _ (List.mem_append_left _ (List.mem_append_left _ (List.mem_append_right _ h)))
  have iX1 : ∀ w ∈ u_ws RX1 TX1 7, w ∈ wsX2_toldIn := fun w h => List.mem_cons_of_mem _ (List.mem_append_left _ (List.mem_append_right _ h))
  refine z_ofW (cc := cX2_toldIn) (nL := 2) (ret := (some .int)) (by decide) rfl (Nat.le_of_ble_eq_true rfl) [] rfl (lv0 := [(0, .ref aX), (1, .int (nI v))]) rfl ?_
  intro p e s m args below meth c K
  refine z_iload_n K 1 dX2_toldIn_0 rfl ?_
  refine z_callS (ws' := [(aX, .inr (2, [.ref aB, .ref aL, .ref aT, .int se])), (aL, .inr (1, [.ref aL0, .ref aL1, .ref aL2, .ref aL3, .ref aL4, .ref aL5, .int hu])), (aL3, .inl (cI, 6, .inl lt))]) (st' := []) (rest := []) K (m_X2_needValley l _ D cI cZ cQ cW v (by omega)) gX2_toldIn_X2_needValley rfl 1 (by decide +kernel) dX2_toldIn_1 [] [] [] rfl rfl rfl ⟨by decide, by decide⟩ ⟨by decide, by decide⟩ rfl rfl rfl rfl (Nat.le_of_ble_eq_true rfl) rfl rfl rfl rfl ?_
  refine z_aload_n K 0 dX2_toldIn_4 rfl ?_
  refine z_get (C := RX2) (T := TX2) (N := 4) (ci := 2) K iX2 rfl 0 rfl 1 (by decide) (by decide +kernel) rfl rfl dX2_toldIn_5 ?_
  refine z_get (C := RX1) (T := TX1) (N := 7) (ci := 1) K iX1 rfl 1 rfl 3 (by decide) (by decide +kernel) rfl rfl dX2_toldIn_8 ?_
  refine z_iload_n K 1 dX2_toldIn_11 rfl ?_
  refine z_ialdN K 2 0 v (by omega) (by omega) rfl rfl dX2_toldIn_12 ?_
  refine z_callS (ws' := [(aX, .inr (2, [.ref aB, .ref aL, .ref aT, .int se])), (aL, .inr (1, [.ref aL0, .ref aL1, .ref aL2, .ref aL3, .ref aL4, .ref aL5, .int hu])), (aL3, .inl (cI, 6, .inl lt))]) (st' := [.int (pc (lt v))]) (rest := []) K (m_X2_size l _ D cI cZ cQ cW (lt v) ) gX2_toldIn_X2_size rfl 1 (by decide +kernel) dX2_toldIn_13 [] [] [] rfl rfl rfl ⟨by decide, by decide⟩ ⟨by decide, by decide⟩ rfl rfl rfl rfl (Nat.le_of_ble_eq_true rfl) rfl rfl rfl rfl ?_
  exact z_iret K dX2_toldIn_16 (rfl) [] rfl (by decide) (by decide)

set_option maxRecDepth 100000 in
set_option maxHeartbeats 4000000 in
theorem m_X2_allowedIn (l : Launch) (G : Nat → Prop) (D : va_G) (cI cZ cQ cW : ClassId) (aX : Nat) (v : Nat) (aB : Nat) (aL : Nat) (aT : Nat) (se : Int32) (n : Nat) (aB0 : Nat) (aB1 : Nat) (aB2 : Nat) (aB3 : Nat) (aB4 : Nat) (aB5 : Nat) (fm : Nat → Int32) (fb : Nat → Int32) (aL0 : Nat) (aL1 : Nat) (aL2 : Nat) (aL3 : Nat) (aL4 : Nat) (aL5 : Nat) (hu : Int32) (lm : Nat → Int32) (lb : Nat → Int32) (hn : n ≤ 20) (hv : v < 6) : z_M l yX2_allowedIn wsX2_allowedIn { frames := 3, cells := 0, slots := 0, locals := 68 } G D [(cI, .int), (cZ, .boolean), (cQ, .array .int), (cW, .array .boolean)] [.ref aX, .int (nI v)] ([(aX, .inr (2, [.ref aB, .ref aL, .ref aT, .int se])), (aB, .inr (0, [.int (nI n), .ref aB0, .ref aB1, .ref aB2, .ref aB3, .ref aB4, .ref aB5])), (aB0, .inl (cI, 20, .inl fm)), (aB1, .inl (cI, 20, .inl fb)), (aL, .inr (1, [.ref aL0, .ref aL1, .ref aL2, .ref aL3, .ref aL4, .ref aL5, .int hu])), (aL1, .inl (cI, 6, .inl lm)), (aL2, .inl (cI, 6, .inl lb))]) (some (.int (pc (welS lm lb fm fb v n)))) [] 0 0 := by
  have iX2 : ∀ w ∈ u_ws RX2 TX2 4, w ∈ wsX2_allowedIn := fun w h => List.mem_cons_of_mem _ (List.mem_append_left _ (List.mem_append_left _ (List.mem_append_left _ (List.mem_append_right _ h))))
  have iX0 : ∀ w ∈ u_ws RX0 TX0 7, w ∈ wsX2_allowedIn := fun w h => List.mem_cons_of_mem _ (List.mem_append_left _ (List.mem_append_left _ (List.mem_append_right _ h)))
  have iX1 : ∀ w ∈ u_ws RX1 TX1 7, w ∈ wsX2_allowedIn := fun w h => List.mem_cons_of_mem _ (List.mem_append_left _ (List.mem_append_right _ h))
  refine z_ofW (cc := cX2_allowedIn) (nL := 2) (ret := (some .int)) (by decide) rfl (Nat.le_of_ble_eq_true rfl) [] rfl (lv0 := [(0, .ref aX), (1, .int (nI v))]) rfl ?_
  intro p e s m args below meth c K
  refine z_iload_n K 1 dX2_allowedIn_0 rfl ?_
  refine z_callS (ws' := [(aX, .inr (2, [.ref aB, .ref aL, .ref aT, .int se])), (aB, .inr (0, [.int (nI n), .ref aB0, .ref aB1, .ref aB2, .ref aB3, .ref aB4, .ref aB5])), (aB0, .inl (cI, 20, .inl fm)), (aB1, .inl (cI, 20, .inl fb)), (aL, .inr (1, [.ref aL0, .ref aL1, .ref aL2, .ref aL3, .ref aL4, .ref aL5, .int hu])), (aL1, .inl (cI, 6, .inl lm)), (aL2, .inl (cI, 6, .inl lb))]) (st' := []) (rest := []) K (m_X2_needValley l _ D cI cZ cQ cW v (by omega)) gX2_allowedIn_X2_needValley rfl 1 (by decide +kernel) dX2_allowedIn_1 [] [] [] rfl rfl rfl ⟨by decide, by decide⟩ ⟨by decide, by decide⟩ rfl rfl rfl rfl (Nat.le_of_ble_eq_true rfl) rfl rfl rfl rfl ?_
  refine z_aload_n K 0 dX2_allowedIn_4 rfl ?_
  refine z_get (C := RX2) (T := TX2) (N := 4) (ci := 2) K iX2 rfl 0 rfl 1 (by decide) (by decide +kernel) rfl rfl dX2_allowedIn_5 ?_
  refine z_aload_n K 0 dX2_allowedIn_8 rfl ?_
  refine z_get (C := RX2) (T := TX2) (N := 4) (ci := 2) K iX2 rfl 0 rfl 0 (by decide) (by decide +kernel) rfl rfl dX2_allowedIn_9 ?_
  refine z_iload_n K 1 dX2_allowedIn_12 rfl ?_
  refine z_callV (ws' := [(aX, .inr (2, [.ref aB, .ref aL, .ref aT, .int se])), (aB, .inr (0, [.int (nI n), .ref aB0, .ref aB1, .ref aB2, .ref aB3, .ref aB4, .ref aB5])), (aB0, .inl (cI, 20, .inl fm)), (aB1, .inl (cI, 20, .inl fb)), (aL, .inr (1, [.ref aL0, .ref aL1, .ref aL2, .ref aL3, .ref aL4, .ref aL5, .int hu])), (aL1, .inl (cI, 6, .inl lm)), (aL2, .inl (cI, 6, .inl lb))]) (st' := [.int (welS lm lb fm fb v n)]) (rest := []) (C := RX1) (T := TX1) (N := 7) K (m_X1_welcome l _ D cI cZ cQ cW aL aB v aL0 aL1 aL2 aL3 aL4 aL5 hu lm lb n aB0 aB1 aB2 aB3 aB4 aB5 fm fb (by omega) (by omega)) gX2_allowedIn_X1_welcome rfl 2 1 (by decide +kernel) rfl dX2_allowedIn_13 [4, 5, 6, 1, 2, 3] 4 [] [] rfl rfl rfl ⟨by decide, by decide⟩ ⟨by decide, by decide⟩ rfl rfl rfl rfl rfl (Nat.le_of_ble_eq_true rfl) rfl rfl rfl rfl ?_
  refine z_callS (ws' := [(aX, .inr (2, [.ref aB, .ref aL, .ref aT, .int se])), (aB, .inr (0, [.int (nI n), .ref aB0, .ref aB1, .ref aB2, .ref aB3, .ref aB4, .ref aB5])), (aB0, .inl (cI, 20, .inl fm)), (aB1, .inl (cI, 20, .inl fb)), (aL, .inr (1, [.ref aL0, .ref aL1, .ref aL2, .ref aL3, .ref aL4, .ref aL5, .int hu])), (aL1, .inl (cI, 6, .inl lm)), (aL2, .inl (cI, 6, .inl lb))]) (st' := [.int (pc (welS lm lb fm fb v n))]) (rest := []) K (m_X2_size l _ D cI cZ cQ cW (welS lm lb fm fb v n) ) gX2_allowedIn_X2_size rfl 1 (by decide +kernel) dX2_allowedIn_16 [] [] [] rfl rfl rfl ⟨by decide, by decide⟩ ⟨by decide, by decide⟩ rfl rfl rfl rfl (Nat.le_of_ble_eq_true rfl) rfl rfl rfl rfl ?_
  exact z_iret K dX2_allowedIn_19 (rfl) [] rfl (by decide) (by decide)

set_option maxRecDepth 100000 in
set_option maxHeartbeats 4000000 in
theorem m_X2_bansOf (l : Launch) (G : Nat → Prop) (D : va_G) (cI cZ cQ cW : ClassId) (aX : Nat) (v : Nat) (aB : Nat) (aL : Nat) (aT : Nat) (se : Int32) (aL0 : Nat) (aL1 : Nat) (aL2 : Nat) (aL3 : Nat) (aL4 : Nat) (aL5 : Nat) (hu : Int32) (lm : Nat → Int32) (lb : Nat → Int32) (hv : v < 6) : z_M l yX2_bansOf wsX2_bansOf { frames := 2, cells := 0, slots := 0, locals := 40 } G D [(cI, .int), (cZ, .boolean), (cQ, .array .int), (cW, .array .boolean)] [.ref aX, .int (nI v)] ([(aX, .inr (2, [.ref aB, .ref aL, .ref aT, .int se])), (aL, .inr (1, [.ref aL0, .ref aL1, .ref aL2, .ref aL3, .ref aL4, .ref aL5, .int hu])), (aL1, .inl (cI, 6, .inl lm)), (aL2, .inl (cI, 6, .inl lb))]) (some (.int ((pc (lm v)) + (pc (lb v))))) [] 0 0 := by
  have iX2 : ∀ w ∈ u_ws RX2 TX2 4, w ∈ wsX2_bansOf := fun w h => List.mem_cons_of_mem _ (List.mem_append_left _ (List.mem_append_left _ (List.mem_append_right _ h)))
  have iX1 : ∀ w ∈ u_ws RX1 TX1 7, w ∈ wsX2_bansOf := fun w h => List.mem_cons_of_mem _ (List.mem_append_left _ (List.mem_append_right _ h))
  refine z_ofW (cc := cX2_bansOf) (nL := 2) (ret := (some .int)) (by decide) rfl (Nat.le_of_ble_eq_true rfl) [] rfl (lv0 := [(0, .ref aX), (1, .int (nI v))]) rfl ?_
  intro p e s m args below meth c K
  refine z_iload_n K 1 dX2_bansOf_0 rfl ?_
  refine z_callS (ws' := [(aX, .inr (2, [.ref aB, .ref aL, .ref aT, .int se])), (aL, .inr (1, [.ref aL0, .ref aL1, .ref aL2, .ref aL3, .ref aL4, .ref aL5, .int hu])), (aL1, .inl (cI, 6, .inl lm)), (aL2, .inl (cI, 6, .inl lb))]) (st' := []) (rest := []) K (m_X2_needValley l _ D cI cZ cQ cW v (by omega)) gX2_bansOf_X2_needValley rfl 1 (by decide +kernel) dX2_bansOf_1 [] [] [] rfl rfl rfl ⟨by decide, by decide⟩ ⟨by decide, by decide⟩ rfl rfl rfl rfl (Nat.le_of_ble_eq_true rfl) rfl rfl rfl rfl ?_
  refine z_aload_n K 0 dX2_bansOf_4 rfl ?_
  refine z_get (C := RX2) (T := TX2) (N := 4) (ci := 2) K iX2 rfl 0 rfl 1 (by decide) (by decide +kernel) rfl rfl dX2_bansOf_5 ?_
  refine z_get (C := RX1) (T := TX1) (N := 7) (ci := 1) K iX1 rfl 1 rfl 1 (by decide) (by decide +kernel) rfl rfl dX2_bansOf_8 ?_
  refine z_iload_n K 1 dX2_bansOf_11 rfl ?_
  refine z_ialdN K 2 0 v (by omega) (by omega) rfl rfl dX2_bansOf_12 ?_
  refine z_callS (ws' := [(aX, .inr (2, [.ref aB, .ref aL, .ref aT, .int se])), (aL, .inr (1, [.ref aL0, .ref aL1, .ref aL2, .ref aL3, .ref aL4, .ref aL5, .int hu])), (aL1, .inl (cI, 6, .inl lm)), (aL2, .inl (cI, 6, .inl lb))]) (st' := [.int (pc (lm v))]) (rest := []) K (m_X2_size l _ D cI cZ cQ cW (lm v) ) gX2_bansOf_X2_size rfl 1 (by decide +kernel) dX2_bansOf_13 [] [] [] rfl rfl rfl ⟨by decide, by decide⟩ ⟨by decide, by decide⟩ rfl rfl rfl rfl (Nat.le_of_ble_eq_true rfl) rfl rfl rfl rfl ?_
  refine z_aload_n K 0 dX2_bansOf_16 rfl ?_
  refine z_get (C := RX2) (T := TX2) (N := 4) (ci := 2) K iX2 rfl 0 rfl 1 (by decide) (by decide +kernel) rfl rfl dX2_bansOf_17 ?_
  refine z_get (C := RX1) (T := TX1) (N := 7) (ci := 1) K iX1 rfl 1 rfl 2 (by decide) (by decide +kernel) rfl rfl dX2_bansOf_20 ?_
  refine z_iload_n K 1 dX2_bansOf_23 rfl ?_
  refine z_ialdN K 3 0 v (by omega) (by omega) rfl rfl dX2_bansOf_24 ?_
  refine z_callS (ws' := [(aX, .inr (2, [.ref aB, .ref aL, .ref aT, .int se])), (aL, .inr (1, [.ref aL0, .ref aL1, .ref aL2, .ref aL3, .ref aL4, .ref aL5, .int hu])), (aL1, .inl (cI, 6, .inl lm)), (aL2, .inl (cI, 6, .inl lb))]) (st' := [.int (pc (lb v)), .int (pc (lm v))]) (rest := [.int (pc (lm v))]) K (m_X2_size l _ D cI cZ cQ cW (lb v) ) gX2_bansOf_X2_size rfl 1 (by decide +kernel) dX2_bansOf_25 [] [] [] rfl rfl rfl ⟨by decide, by decide⟩ ⟨by decide, by decide⟩ rfl rfl rfl rfl (Nat.le_of_ble_eq_true rfl) rfl rfl rfl rfl ?_
  refine z_iadd K dX2_bansOf_28 ?_
  exact z_iret K dX2_bansOf_29 (rfl) [] rfl (by decide) (by decide)

set_option maxRecDepth 100000 in
set_option maxHeartbeats 4000000 in
theorem m_X2_isOpen (l : Launch) (G : Nat → Prop) (D : va_G) (cI cZ cQ cW : ClassId) (aX : Nat) (v : Nat) (o : Nat) (aB : Nat) (aL : Nat) (aT : Nat) (se : Int32) (aL0 : Nat) (aL1 : Nat) (aL2 : Nat) (aL3 : Nat) (aL4 : Nat) (aL5 : Nat) (hu : Int32) (lw : Nat → Int32) (hv : v < 6) (ho : o < 6) : z_M l yX2_isOpen wsX2_isOpen { frames := 1, cells := 0, slots := 0, locals := 21 } G D [(cI, .int), (cZ, .boolean), (cQ, .array .int), (cW, .array .boolean)] [.ref aX, .int (nI v), .int (nI o)] ([(aX, .inr (2, [.ref aB, .ref aL, .ref aT, .int se])), (aL, .inr (1, [.ref aL0, .ref aL1, .ref aL2, .ref aL3, .ref aL4, .ref aL5, .int hu])), (aL0, .inl (cI, 6, .inl lw))]) (some (.int (z_b (hs (lw v) (nI o))))) [] 0 0 := by
  have iX2 : ∀ w ∈ u_ws RX2 TX2 4, w ∈ wsX2_isOpen := fun w h => List.mem_cons_of_mem _ (List.mem_append_left _ (List.mem_append_left _ (List.mem_append_right _ h)))
  have iX1 : ∀ w ∈ u_ws RX1 TX1 7, w ∈ wsX2_isOpen := fun w h => List.mem_cons_of_mem _ (List.mem_append_left _ (List.mem_append_right _ h))
  refine z_ofW (cc := cX2_isOpen) (nL := 3) (ret := (some .boolean)) (by decide) rfl (Nat.le_of_ble_eq_true rfl) [] rfl (lv0 := [(0, .ref aX), (1, .int (nI v)), (2, .int (nI o))]) rfl ?_
  intro p e s m args below meth c K
  refine z_iload_n K 1 dX2_isOpen_0 rfl ?_
  refine z_callS (ws' := [(aX, .inr (2, [.ref aB, .ref aL, .ref aT, .int se])), (aL, .inr (1, [.ref aL0, .ref aL1, .ref aL2, .ref aL3, .ref aL4, .ref aL5, .int hu])), (aL0, .inl (cI, 6, .inl lw))]) (st' := []) (rest := []) K (m_X2_needValley l _ D cI cZ cQ cW v (by omega)) gX2_isOpen_X2_needValley rfl 1 (by decide +kernel) dX2_isOpen_1 [] [] [] rfl rfl rfl ⟨by decide, by decide⟩ ⟨by decide, by decide⟩ rfl rfl rfl rfl (Nat.le_of_ble_eq_true rfl) rfl rfl rfl rfl ?_
  refine z_iload_n K 2 dX2_isOpen_4 rfl ?_
  refine z_callS (ws' := [(aX, .inr (2, [.ref aB, .ref aL, .ref aT, .int se])), (aL, .inr (1, [.ref aL0, .ref aL1, .ref aL2, .ref aL3, .ref aL4, .ref aL5, .int hu])), (aL0, .inl (cI, 6, .inl lw))]) (st' := []) (rest := []) K (m_X2_needValley l _ D cI cZ cQ cW o (by omega)) gX2_isOpen_X2_needValley rfl 1 (by decide +kernel) dX2_isOpen_5 [] [] [] rfl rfl rfl ⟨by decide, by decide⟩ ⟨by decide, by decide⟩ rfl rfl rfl rfl (Nat.le_of_ble_eq_true rfl) rfl rfl rfl rfl ?_
  refine z_aload_n K 0 dX2_isOpen_8 rfl ?_
  refine z_get (C := RX2) (T := TX2) (N := 4) (ci := 2) K iX2 rfl 0 rfl 1 (by decide) (by decide +kernel) rfl rfl dX2_isOpen_9 ?_
  refine z_get (C := RX1) (T := TX1) (N := 7) (ci := 1) K iX1 rfl 1 rfl 0 (by decide) (by decide +kernel) rfl rfl dX2_isOpen_12 ?_
  refine z_iload_n K 1 dX2_isOpen_15 rfl ?_
  refine z_ialdN K 2 0 v (by omega) (by omega) rfl rfl dX2_isOpen_16 ?_
  refine z_iload_n K 2 dX2_isOpen_17 rfl ?_
  refine z_callS (ws' := [(aX, .inr (2, [.ref aB, .ref aL, .ref aT, .int se])), (aL, .inr (1, [.ref aL0, .ref aL1, .ref aL2, .ref aL3, .ref aL4, .ref aL5, .int hu])), (aL0, .inl (cI, 6, .inl lw))]) (st' := [.int (z_b (hs (lw v) (nI o)))]) (rest := []) K (m_X2_has l _ D cI cZ cQ cW (lw v) (nI o) ) gX2_isOpen_X2_has rfl 2 (by decide +kernel) dX2_isOpen_18 [] [] [] rfl rfl rfl ⟨by decide, by decide⟩ ⟨by decide, by decide⟩ rfl rfl rfl rfl (Nat.le_of_ble_eq_true rfl) rfl rfl rfl rfl ?_
  exact z_zret K dX2_isOpen_21 (rfl) [] rfl (by decide) (by decide)

set_option maxRecDepth 100000 in
set_option maxHeartbeats 4000000 in
theorem m_X2_kinship (l : Launch) (G : Nat → Prop) (D : va_G) (cI cZ cQ cW : ClassId) (aX : Nat) (f : Nat) (g : Nat) (aB : Nat) (aL : Nat) (aT : Nat) (se : Int32) (n : Nat) (aB0 : Nat) (aB1 : Nat) (aB2 : Nat) (aB3 : Nat) (aB4 : Nat) (aB5 : Nat) (fa : Nat → Int32) (hn : n ≤ 20) (hf : f < n) (hg : g < n) : z_M l yX2_kinship wsX2_kinship { frames := 2, cells := 0, slots := 0, locals := 40 } G D [(cI, .int), (cZ, .boolean), (cQ, .array .int), (cW, .array .boolean)] [.ref aX, .int (nI f), .int (nI g)] ([(aX, .inr (2, [.ref aB, .ref aL, .ref aT, .int se])), (aB, .inr (0, [.int (nI n), .ref aB0, .ref aB1, .ref aB2, .ref aB3, .ref aB4, .ref aB5])), (aB5, .inl (cI, 20, .inl fa))]) (some (.int (kinS (fa f) (fa g)))) [] 0 0 := by
  have iX2 : ∀ w ∈ u_ws RX2 TX2 4, w ∈ wsX2_kinship := fun w h => List.mem_cons_of_mem _ (List.mem_append_left _ (List.mem_append_left _ (List.mem_append_right _ h)))
  have iX0 : ∀ w ∈ u_ws RX0 TX0 7, w ∈ wsX2_kinship := fun w h => List.mem_cons_of_mem _ (List.mem_append_left _ (List.mem_append_right _ h))
  refine z_ofW (cc := cX2_kinship) (nL := 3) (ret := (some .int)) (by decide) rfl (Nat.le_of_ble_eq_true rfl) [] rfl (lv0 := [(0, .ref aX), (1, .int (nI f)), (2, .int (nI g))]) rfl ?_
  intro p e s m args below meth c K
  refine z_aload_n K 0 dX2_kinship_0 rfl ?_
  refine z_iload_n K 1 dX2_kinship_1 rfl ?_
  refine z_callV (ws' := [(aX, .inr (2, [.ref aB, .ref aL, .ref aT, .int se])), (aB, .inr (0, [.int (nI n), .ref aB0, .ref aB1, .ref aB2, .ref aB3, .ref aB4, .ref aB5])), (aB5, .inl (cI, 20, .inl fa))]) (st' := []) (rest := []) (C := RX2) (T := TX2) (N := 4) K (m_X2_needFable l _ D cI cZ cQ cW aX f aB aL aT se n aB0 aB1 aB2 aB3 aB4 aB5 (by omega) (by omega)) gX2_kinship_X2_needFable rfl 1 2 (by decide +kernel) rfl dX2_kinship_2 [0, 1] 0 [] [] rfl rfl rfl ⟨by decide, by decide⟩ ⟨by decide, by decide⟩ rfl rfl rfl rfl rfl (Nat.le_of_ble_eq_true rfl) rfl rfl rfl rfl ?_
  refine z_aload_n K 0 dX2_kinship_5 rfl ?_
  refine z_iload_n K 2 dX2_kinship_6 rfl ?_
  refine z_callV (ws' := [(aX, .inr (2, [.ref aB, .ref aL, .ref aT, .int se])), (aB, .inr (0, [.int (nI n), .ref aB0, .ref aB1, .ref aB2, .ref aB3, .ref aB4, .ref aB5])), (aB5, .inl (cI, 20, .inl fa))]) (st' := []) (rest := []) (C := RX2) (T := TX2) (N := 4) K (m_X2_needFable l _ D cI cZ cQ cW aX g aB aL aT se n aB0 aB1 aB2 aB3 aB4 aB5 (by omega) (by omega)) gX2_kinship_X2_needFable rfl 1 2 (by decide +kernel) rfl dX2_kinship_7 [0, 1] 0 [] [] rfl rfl rfl ⟨by decide, by decide⟩ ⟨by decide, by decide⟩ rfl rfl rfl rfl rfl (Nat.le_of_ble_eq_true rfl) rfl rfl rfl rfl ?_
  refine z_aload_n K 0 dX2_kinship_10 rfl ?_
  refine z_get (C := RX2) (T := TX2) (N := 4) (ci := 2) K iX2 rfl 0 rfl 0 (by decide) (by decide +kernel) rfl rfl dX2_kinship_11 ?_
  refine z_get (C := RX0) (T := TX0) (N := 7) (ci := 0) K iX0 rfl 1 rfl 6 (by decide) (by decide +kernel) rfl rfl dX2_kinship_14 ?_
  refine z_iload_n K 1 dX2_kinship_17 rfl ?_
  refine z_ialdN K 2 0 f (by omega) (by omega) rfl rfl dX2_kinship_18 ?_
  refine z_aload_n K 0 dX2_kinship_19 rfl ?_
  refine z_get (C := RX2) (T := TX2) (N := 4) (ci := 2) K iX2 rfl 0 rfl 0 (by decide) (by decide +kernel) rfl rfl dX2_kinship_20 ?_
  refine z_get (C := RX0) (T := TX0) (N := 7) (ci := 0) K iX0 rfl 1 rfl 6 (by decide) (by decide +kernel) rfl rfl dX2_kinship_23 ?_
  refine z_iload_n K 2 dX2_kinship_26 rfl ?_
  refine z_ialdN K 2 0 g (by omega) (by omega) rfl rfl dX2_kinship_27 ?_
  refine z_iand K dX2_kinship_28 ?_
  refine z_if_ne K 34 dX2_kinship_29 (by decide) (fun c29 => ?_) (fun c29 => ?_)
  · refine z_aload_n K 0 dX2_kinship_34 rfl ?_
    refine z_get (C := RX2) (T := TX2) (N := 4) (ci := 2) K iX2 rfl 0 rfl 0 (by decide) (by decide +kernel) rfl rfl dX2_kinship_35 ?_
    refine z_get (C := RX0) (T := TX0) (N := 7) (ci := 0) K iX0 rfl 1 rfl 6 (by decide) (by decide +kernel) rfl rfl dX2_kinship_38 ?_
    refine z_iload_n K 1 dX2_kinship_41 rfl ?_
    refine z_ialdN K 2 0 f (by omega) (by omega) rfl rfl dX2_kinship_42 ?_
    refine z_aload_n K 0 dX2_kinship_43 rfl ?_
    refine z_get (C := RX2) (T := TX2) (N := 4) (ci := 2) K iX2 rfl 0 rfl 0 (by decide) (by decide +kernel) rfl rfl dX2_kinship_44 ?_
    refine z_get (C := RX0) (T := TX0) (N := 7) (ci := 0) K iX0 rfl 1 rfl 6 (by decide) (by decide +kernel) rfl rfl dX2_kinship_47 ?_
    refine z_iload_n K 2 dX2_kinship_50 rfl ?_
    refine z_ialdN K 2 0 g (by omega) (by omega) rfl rfl dX2_kinship_51 ?_
    refine z_ixor K dX2_kinship_52 ?_
    refine z_callS (ws' := [(aX, .inr (2, [.ref aB, .ref aL, .ref aT, .int se])), (aB, .inr (0, [.int (nI n), .ref aB0, .ref aB1, .ref aB2, .ref aB3, .ref aB4, .ref aB5])), (aB5, .inl (cI, 20, .inl fa))]) (st' := [.int (pc ((fa f) ^^^ (fa g)))]) (rest := []) K (m_X2_size l _ D cI cZ cQ cW ((fa f) ^^^ (fa g)) ) gX2_kinship_X2_size rfl 1 (by decide +kernel) dX2_kinship_53 [] [] [] rfl rfl rfl ⟨by decide, by decide⟩ ⟨by decide, by decide⟩ rfl rfl rfl rfl (Nat.le_of_ble_eq_true rfl) rfl rfl rfl rfl ?_
    exact z_iret K dX2_kinship_56 ((by first | (simp only [kinS, c29, Bool.false_eq_true, if_false, if_true, ↓reduceIte]; done) | rfl | simp [kinS, c29])) [] rfl (by decide) (by decide)
  · refine z_iconst (v := (-1)) K dX2_kinship_32 (by decide) ?_
    exact z_iret K dX2_kinship_33 ((by first | (simp only [kinS, c29, Bool.false_eq_true, if_false, if_true, ↓reduceIte]; done) | rfl | simp [kinS, c29])) [] rfl (by decide) (by decide)

set_option maxRecDepth 100000 in
set_option maxHeartbeats 4000000 in
theorem m_X2_sharedBeasts (l : Launch) (G : Nat → Prop) (D : va_G) (cI cZ cQ cW : ClassId) (aX : Nat) (f : Nat) (g : Nat) (aB : Nat) (aL : Nat) (aT : Nat) (se : Int32) (n : Nat) (aB0 : Nat) (aB1 : Nat) (aB2 : Nat) (aB3 : Nat) (aB4 : Nat) (aB5 : Nat) (fb : Nat → Int32) (hn : n ≤ 20) (hf : f < n) (hg : g < n) : z_M l yX2_sharedBeasts wsX2_sharedBeasts { frames := 2, cells := 0, slots := 0, locals := 40 } G D [(cI, .int), (cZ, .boolean), (cQ, .array .int), (cW, .array .boolean)] [.ref aX, .int (nI f), .int (nI g)] ([(aX, .inr (2, [.ref aB, .ref aL, .ref aT, .int se])), (aB, .inr (0, [.int (nI n), .ref aB0, .ref aB1, .ref aB2, .ref aB3, .ref aB4, .ref aB5])), (aB1, .inl (cI, 20, .inl fb))]) (some (.int (pc ((fb f) &&& (fb g))))) [] 0 0 := by
  have iX2 : ∀ w ∈ u_ws RX2 TX2 4, w ∈ wsX2_sharedBeasts := fun w h => List.mem_cons_of_mem _ (List.mem_append_left _ (List.mem_append_left _ (List.mem_append_right _ h)))
  have iX0 : ∀ w ∈ u_ws RX0 TX0 7, w ∈ wsX2_sharedBeasts := fun w h => List.mem_cons_of_mem _ (List.mem_append_left _ (List.mem_append_right _ h))
  refine z_ofW (cc := cX2_sharedBeasts) (nL := 3) (ret := (some .int)) (by decide) rfl (Nat.le_of_ble_eq_true rfl) [] rfl (lv0 := [(0, .ref aX), (1, .int (nI f)), (2, .int (nI g))]) rfl ?_
  intro p e s m args below meth c K
  refine z_aload_n K 0 dX2_sharedBeasts_0 rfl ?_
  refine z_iload_n K 1 dX2_sharedBeasts_1 rfl ?_
  refine z_callV (ws' := [(aX, .inr (2, [.ref aB, .ref aL, .ref aT, .int se])), (aB, .inr (0, [.int (nI n), .ref aB0, .ref aB1, .ref aB2, .ref aB3, .ref aB4, .ref aB5])), (aB1, .inl (cI, 20, .inl fb))]) (st' := []) (rest := []) (C := RX2) (T := TX2) (N := 4) K (m_X2_needFable l _ D cI cZ cQ cW aX f aB aL aT se n aB0 aB1 aB2 aB3 aB4 aB5 (by omega) (by omega)) gX2_sharedBeasts_X2_needFable rfl 1 2 (by decide +kernel) rfl dX2_sharedBeasts_2 [0, 1] 0 [] [] rfl rfl rfl ⟨by decide, by decide⟩ ⟨by decide, by decide⟩ rfl rfl rfl rfl rfl (Nat.le_of_ble_eq_true rfl) rfl rfl rfl rfl ?_
  refine z_aload_n K 0 dX2_sharedBeasts_5 rfl ?_
  refine z_iload_n K 2 dX2_sharedBeasts_6 rfl ?_
  refine z_callV (ws' := [(aX, .inr (2, [.ref aB, .ref aL, .ref aT, .int se])), (aB, .inr (0, [.int (nI n), .ref aB0, .ref aB1, .ref aB2, .ref aB3, .ref aB4, .ref aB5])), (aB1, .inl (cI, 20, .inl fb))]) (st' := []) (rest := []) (C := RX2) (T := TX2) (N := 4) K (m_X2_needFable l _ D cI cZ cQ cW aX g aB aL aT se n aB0 aB1 aB2 aB3 aB4 aB5 (by omega) (by omega)) gX2_sharedBeasts_X2_needFable rfl 1 2 (by decide +kernel) rfl dX2_sharedBeasts_7 [0, 1] 0 [] [] rfl rfl rfl ⟨by decide, by decide⟩ ⟨by decide, by decide⟩ rfl rfl rfl rfl rfl (Nat.le_of_ble_eq_true rfl) rfl rfl rfl rfl ?_
  refine z_aload_n K 0 dX2_sharedBeasts_10 rfl ?_
  refine z_get (C := RX2) (T := TX2) (N := 4) (ci := 2) K iX2 rfl 0 rfl 0 (by decide) (by decide +kernel) rfl rfl dX2_sharedBeasts_11 ?_
  refine z_get (C := RX0) (T := TX0) (N := 7) (ci := 0) K iX0 rfl 1 rfl 2 (by decide) (by decide +kernel) rfl rfl dX2_sharedBeasts_14 ?_
  refine z_iload_n K 1 dX2_sharedBeasts_17 rfl ?_
  refine z_ialdN K 2 0 f (by omega) (by omega) rfl rfl dX2_sharedBeasts_18 ?_
  refine z_aload_n K 0 dX2_sharedBeasts_19 rfl ?_
  refine z_get (C := RX2) (T := TX2) (N := 4) (ci := 2) K iX2 rfl 0 rfl 0 (by decide) (by decide +kernel) rfl rfl dX2_sharedBeasts_20 ?_
  refine z_get (C := RX0) (T := TX0) (N := 7) (ci := 0) K iX0 rfl 1 rfl 2 (by decide) (by decide +kernel) rfl rfl dX2_sharedBeasts_23 ?_
  refine z_iload_n K 2 dX2_sharedBeasts_26 rfl ?_
  refine z_ialdN K 2 0 g (by omega) (by omega) rfl rfl dX2_sharedBeasts_27 ?_
  refine z_iand K dX2_sharedBeasts_28 ?_
  refine z_callS (ws' := [(aX, .inr (2, [.ref aB, .ref aL, .ref aT, .int se])), (aB, .inr (0, [.int (nI n), .ref aB0, .ref aB1, .ref aB2, .ref aB3, .ref aB4, .ref aB5])), (aB1, .inl (cI, 20, .inl fb))]) (st' := [.int (pc ((fb f) &&& (fb g)))]) (rest := []) K (m_X2_size l _ D cI cZ cQ cW ((fb f) &&& (fb g)) ) gX2_sharedBeasts_X2_size rfl 1 (by decide +kernel) dX2_sharedBeasts_29 [] [] [] rfl rfl rfl ⟨by decide, by decide⟩ ⟨by decide, by decide⟩ rfl rfl rfl rfl (Nat.le_of_ble_eq_true rfl) rfl rfl rfl rfl ?_
  exact z_iret K dX2_sharedBeasts_32 (rfl) [] rfl (by decide) (by decide)

set_option maxRecDepth 100000 in
set_option maxHeartbeats 4000000 in
theorem m_X2_fables (l : Launch) (G : Nat → Prop) (D : va_G) (cI cZ cQ cW : ClassId) (aX : Nat) (aB : Nat) (aL : Nat) (aT : Nat) (se : Int32) (n : Nat) (aB0 : Nat) (aB1 : Nat) (aB2 : Nat) (aB3 : Nat) (aB4 : Nat) (aB5 : Nat)  : z_M l yX2_fables wsX2_fables { frames := 0, cells := 0, slots := 0, locals := 0 } G D [(cI, .int), (cZ, .boolean), (cQ, .array .int), (cW, .array .boolean)] [.ref aX] ([(aX, .inr (2, [.ref aB, .ref aL, .ref aT, .int se])), (aB, .inr (0, [.int (nI n), .ref aB0, .ref aB1, .ref aB2, .ref aB3, .ref aB4, .ref aB5]))]) (some (.int (nI n))) [] 0 0 := by
  have iX2 : ∀ w ∈ u_ws RX2 TX2 4, w ∈ wsX2_fables := fun w h => List.mem_cons_of_mem _ (List.mem_append_left _ (List.mem_append_right _ h))
  have iX0 : ∀ w ∈ u_ws RX0 TX0 7, w ∈ wsX2_fables := fun w h => List.mem_cons_of_mem _ (List.mem_append_right _ h)
  refine z_ofW (cc := cX2_fables) (nL := 1) (ret := (some .int)) (by decide) rfl (Nat.le_of_ble_eq_true rfl) [] rfl (lv0 := [(0, .ref aX)]) rfl ?_
  intro p e s m args below meth c K
  refine z_aload_n K 0 dX2_fables_0 rfl ?_
  refine z_get (C := RX2) (T := TX2) (N := 4) (ci := 2) K iX2 rfl 0 rfl 0 (by decide) (by decide +kernel) rfl rfl dX2_fables_1 ?_
  refine z_get (C := RX0) (T := TX0) (N := 7) (ci := 0) K iX0 rfl 1 rfl 0 (by decide) (by decide +kernel) rfl rfl dX2_fables_4 ?_
  exact z_iret K dX2_fables_7 (rfl) [] rfl (by decide) (by decide)

set_option maxRecDepth 100000 in
set_option maxHeartbeats 4000000 in
theorem m_X2_season (l : Launch) (G : Nat → Prop) (D : va_G) (cI cZ cQ cW : ClassId) (aX : Nat) (aB : Nat) (aL : Nat) (aT : Nat) (se : Int32)  : z_M l yX2_season wsX2_season { frames := 0, cells := 0, slots := 0, locals := 0 } G D [(cI, .int), (cZ, .boolean), (cQ, .array .int), (cW, .array .boolean)] [.ref aX] ([(aX, .inr (2, [.ref aB, .ref aL, .ref aT, .int se]))]) (some (.int se)) [] 0 0 := by
  have iX2 : ∀ w ∈ u_ws RX2 TX2 4, w ∈ wsX2_season := fun w h => List.mem_cons_of_mem _ (List.mem_append_right _ h)
  refine z_ofW (cc := cX2_season) (nL := 1) (ret := (some .int)) (by decide) rfl (Nat.le_of_ble_eq_true rfl) [] rfl (lv0 := [(0, .ref aX)]) rfl ?_
  intro p e s m args below meth c K
  refine z_aload_n K 0 dX2_season_0 rfl ?_
  refine z_get (C := RX2) (T := TX2) (N := 4) (ci := 2) K iX2 rfl 0 rfl 3 (by decide) (by decide +kernel) rfl rfl dX2_season_1 ?_
  exact z_iret K dX2_season_4 (rfl) [] rfl (by decide) (by decide)

set_option maxRecDepth 100000 in
set_option maxHeartbeats 4000000 in
theorem m_X2_tellings (l : Launch) (G : Nat → Prop) (D : va_G) (cI cZ cQ cW : ClassId) (aX : Nat) (aB : Nat) (aL : Nat) (aT : Nat) (se : Int32) (n : Nat) (aB0 : Nat) (aB1 : Nat) (aB2 : Nat) (aB3 : Nat) (aB4 : Nat) (aB5 : Nat) (aL0 : Nat) (aL1 : Nat) (aL2 : Nat) (aL3 : Nat) (aL4 : Nat) (aL5 : Nat) (hu : Int32) (lt : Nat → Int32)  : z_M l yX2_tellings wsX2_tellings { frames := 3, cells := 0, slots := 0, locals := 63 } G D [(cI, .int), (cZ, .boolean), (cQ, .array .int), (cW, .array .boolean)] [.ref aX] ([(aX, .inr (2, [.ref aB, .ref aL, .ref aT, .int se])), (aB, .inr (0, [.int (nI n), .ref aB0, .ref aB1, .ref aB2, .ref aB3, .ref aB4, .ref aB5])), (aL, .inr (1, [.ref aL0, .ref aL1, .ref aL2, .ref aL3, .ref aL4, .ref aL5, .int hu])), (aL3, .inl (cI, 6, .inl lt))]) (some (.int (cntS lt (allS n) 6))) [] 0 0 := by
  have iX2 : ∀ w ∈ u_ws RX2 TX2 4, w ∈ wsX2_tellings := fun w h => List.mem_cons_of_mem _ (List.mem_append_left _ (List.mem_append_left _ (List.mem_append_right _ h)))
  have iX0 : ∀ w ∈ u_ws RX0 TX0 7, w ∈ wsX2_tellings := fun w h => List.mem_cons_of_mem _ (List.mem_append_left _ (List.mem_append_right _ h))
  have iX1 : ∀ w ∈ u_ws RX1 TX1 7, w ∈ wsX2_tellings := fun w h => List.mem_cons_of_mem _ (List.mem_append_right _ h)
  refine z_ofW (cc := cX2_tellings) (nL := 1) (ret := (some .int)) (by decide) rfl (Nat.le_of_ble_eq_true rfl) [] rfl (lv0 := [(0, .ref aX)]) rfl ?_
  intro p e s m args below meth c K
  refine z_aload_n K 0 dX2_tellings_0 rfl ?_
  refine z_get (C := RX2) (T := TX2) (N := 4) (ci := 2) K iX2 rfl 0 rfl 1 (by decide) (by decide +kernel) rfl rfl dX2_tellings_1 ?_
  refine z_aload_n K 0 dX2_tellings_4 rfl ?_
  refine z_get (C := RX2) (T := TX2) (N := 4) (ci := 2) K iX2 rfl 0 rfl 0 (by decide) (by decide +kernel) rfl rfl dX2_tellings_5 ?_
  refine z_callV (ws' := [(aX, .inr (2, [.ref aB, .ref aL, .ref aT, .int se])), (aB, .inr (0, [.int (nI n), .ref aB0, .ref aB1, .ref aB2, .ref aB3, .ref aB4, .ref aB5])), (aL, .inr (1, [.ref aL0, .ref aL1, .ref aL2, .ref aL3, .ref aL4, .ref aL5, .int hu])), (aL3, .inl (cI, 6, .inl lt))]) (st' := [.int (allS n), .ref aL]) (rest := [.ref aL]) (C := RX0) (T := TX0) (N := 7) K (m_X0_all l _ D cI cZ cQ cW aB n aB0 aB1 aB2 aB3 aB4 aB5 ) gX2_tellings_X0_all rfl 0 0 (by decide +kernel) rfl dX2_tellings_8 [1] 1 [] [] rfl rfl rfl ⟨by decide, by decide⟩ ⟨by decide, by decide⟩ rfl rfl rfl rfl rfl (Nat.le_of_ble_eq_true rfl) rfl rfl rfl rfl ?_
  refine z_callV (ws' := [(aX, .inr (2, [.ref aB, .ref aL, .ref aT, .int se])), (aB, .inr (0, [.int (nI n), .ref aB0, .ref aB1, .ref aB2, .ref aB3, .ref aB4, .ref aB5])), (aL, .inr (1, [.ref aL0, .ref aL1, .ref aL2, .ref aL3, .ref aL4, .ref aL5, .int hu])), (aL3, .inl (cI, 6, .inl lt))]) (st' := [.int (cntS lt (allS n) 6)]) (rest := []) (C := RX1) (T := TX1) (N := 7) K (m_X1_count l _ D cI cZ cQ cW aL (allS n) aL0 aL1 aL2 aL3 aL4 aL5 hu lt ) gX2_tellings_X1_count rfl 1 1 (by decide +kernel) rfl dX2_tellings_11 [2, 3] 2 [] [] rfl rfl rfl ⟨by decide, by decide⟩ ⟨by decide, by decide⟩ rfl rfl rfl rfl rfl (Nat.le_of_ble_eq_true rfl) rfl rfl rfl rfl ?_
  exact z_iret K dX2_tellings_14 (rfl) [] rfl (by decide) (by decide)

set_option maxRecDepth 100000 in
set_option maxHeartbeats 4000000 in
theorem m_X2_silenced (l : Launch) (G : Nat → Prop) (D : va_G) (cI cZ cQ cW : ClassId) (aX : Nat) (aB : Nat) (aL : Nat) (aT : Nat) (se : Int32) (aL0 : Nat) (aL1 : Nat) (aL2 : Nat) (aL3 : Nat) (aL4 : Nat) (aL5 : Nat) (hu : Int32)  : z_M l yX2_silenced wsX2_silenced { frames := 0, cells := 0, slots := 0, locals := 0 } G D [(cI, .int), (cZ, .boolean), (cQ, .array .int), (cW, .array .boolean)] [.ref aX] ([(aX, .inr (2, [.ref aB, .ref aL, .ref aT, .int se])), (aL, .inr (1, [.ref aL0, .ref aL1, .ref aL2, .ref aL3, .ref aL4, .ref aL5, .int hu]))]) (some (.int hu)) [] 0 0 := by
  have iX2 : ∀ w ∈ u_ws RX2 TX2 4, w ∈ wsX2_silenced := fun w h => List.mem_cons_of_mem _ (List.mem_append_left _ (List.mem_append_right _ h))
  have iX1 : ∀ w ∈ u_ws RX1 TX1 7, w ∈ wsX2_silenced := fun w h => List.mem_cons_of_mem _ (List.mem_append_right _ h)
  refine z_ofW (cc := cX2_silenced) (nL := 1) (ret := (some .int)) (by decide) rfl (Nat.le_of_ble_eq_true rfl) [] rfl (lv0 := [(0, .ref aX)]) rfl ?_
  intro p e s m args below meth c K
  refine z_aload_n K 0 dX2_silenced_0 rfl ?_
  refine z_get (C := RX2) (T := TX2) (N := 4) (ci := 2) K iX2 rfl 0 rfl 1 (by decide) (by decide +kernel) rfl rfl dX2_silenced_1 ?_
  refine z_get (C := RX1) (T := TX1) (N := 7) (ci := 1) K iX1 rfl 1 rfl 6 (by decide) (by decide +kernel) rfl rfl dX2_silenced_4 ?_
  exact z_iret K dX2_silenced_7 (rfl) [] rfl (by decide) (by decide)

set_option maxRecDepth 100000 in
set_option maxHeartbeats 4000000 in
theorem m_X2_fablesWithMoral (l : Launch) (G : Nat → Prop) (D : va_G) (cI cZ cQ cW : ClassId) (aX : Nat) (mo : Nat) (aB : Nat) (aL : Nat) (aT : Nat) (se : Int32) (n : Nat) (aB0 : Nat) (aB1 : Nat) (aB2 : Nat) (aB3 : Nat) (aB4 : Nat) (aB5 : Nat) (fm : Nat → Int32) (hn : n ≤ 20) (hm : mo < 10) : z_M l yX2_fablesWithMoral wsX2_fablesWithMoral { frames := 2, cells := 0, slots := 0, locals := 40 } G D [(cI, .int), (cZ, .boolean), (cQ, .array .int), (cW, .array .boolean)] [.ref aX, .int (nI mo)] ([(aX, .inr (2, [.ref aB, .ref aL, .ref aT, .int se])), (aB, .inr (0, [.int (nI n), .ref aB0, .ref aB1, .ref aB2, .ref aB3, .ref aB4, .ref aB5])), (aB0, .inl (cI, 20, .inl fm))]) (some (.int (pc (wmS fm (nI mo) n)))) [] 0 0 := by
  have iX2 : ∀ w ∈ u_ws RX2 TX2 4, w ∈ wsX2_fablesWithMoral := fun w h => List.mem_cons_of_mem _ (List.mem_append_left _ (List.mem_append_left _ (List.mem_append_right _ h)))
  have iX0 : ∀ w ∈ u_ws RX0 TX0 7, w ∈ wsX2_fablesWithMoral := fun w h => List.mem_cons_of_mem _ (List.mem_append_left _ (List.mem_append_right _ h))
  refine z_ofW (cc := cX2_fablesWithMoral) (nL := 2) (ret := (some .int)) (by decide) rfl (Nat.le_of_ble_eq_true rfl) [] rfl (lv0 := [(0, .ref aX), (1, .int (nI mo))]) rfl ?_
  intro p e s m args below meth c K
  refine z_iload_n K 1 dX2_fablesWithMoral_0 rfl ?_
  refine z_callS (ws' := [(aX, .inr (2, [.ref aB, .ref aL, .ref aT, .int se])), (aB, .inr (0, [.int (nI n), .ref aB0, .ref aB1, .ref aB2, .ref aB3, .ref aB4, .ref aB5])), (aB0, .inl (cI, 20, .inl fm))]) (st' := []) (rest := []) K (m_X2_needMoral l _ D cI cZ cQ cW mo (by omega)) gX2_fablesWithMoral_X2_needMoral rfl 1 (by decide +kernel) dX2_fablesWithMoral_1 [] [] [] rfl rfl rfl ⟨by decide, by decide⟩ ⟨by decide, by decide⟩ rfl rfl rfl rfl (Nat.le_of_ble_eq_true rfl) rfl rfl rfl rfl ?_
  refine z_aload_n K 0 dX2_fablesWithMoral_4 rfl ?_
  refine z_get (C := RX2) (T := TX2) (N := 4) (ci := 2) K iX2 rfl 0 rfl 0 (by decide) (by decide +kernel) rfl rfl dX2_fablesWithMoral_5 ?_
  refine z_iload_n K 1 dX2_fablesWithMoral_8 rfl ?_
  refine z_callV (ws' := [(aX, .inr (2, [.ref aB, .ref aL, .ref aT, .int se])), (aB, .inr (0, [.int (nI n), .ref aB0, .ref aB1, .ref aB2, .ref aB3, .ref aB4, .ref aB5])), (aB0, .inl (cI, 20, .inl fm))]) (st' := [.int (wmS fm (nI mo) n)]) (rest := []) (C := RX0) (T := TX0) (N := 7) K (m_X0_withMoral l _ D cI cZ cQ cW aB (nI mo) n aB0 aB1 aB2 aB3 aB4 aB5 fm (by omega)) gX2_fablesWithMoral_X0_withMoral rfl 1 0 (by decide +kernel) rfl dX2_fablesWithMoral_9 [1, 2] 1 [] [] rfl rfl rfl ⟨by decide, by decide⟩ ⟨by decide, by decide⟩ rfl rfl rfl rfl rfl (Nat.le_of_ble_eq_true rfl) rfl rfl rfl rfl ?_
  refine z_callS (ws' := [(aX, .inr (2, [.ref aB, .ref aL, .ref aT, .int se])), (aB, .inr (0, [.int (nI n), .ref aB0, .ref aB1, .ref aB2, .ref aB3, .ref aB4, .ref aB5])), (aB0, .inl (cI, 20, .inl fm))]) (st' := [.int (pc (wmS fm (nI mo) n))]) (rest := []) K (m_X2_size l _ D cI cZ cQ cW (wmS fm (nI mo) n) ) gX2_fablesWithMoral_X2_size rfl 1 (by decide +kernel) dX2_fablesWithMoral_12 [] [] [] rfl rfl rfl ⟨by decide, by decide⟩ ⟨by decide, by decide⟩ rfl rfl rfl rfl (Nat.le_of_ble_eq_true rfl) rfl rfl rfl rfl ?_
  exact z_iret K dX2_fablesWithMoral_15 (rfl) [] rfl (by decide) (by decide)

set_option maxRecDepth 100000 in
set_option maxHeartbeats 4000000 in
theorem m_X2_fablesWithBeast (l : Launch) (G : Nat → Prop) (D : va_G) (cI cZ cQ cW : ClassId) (aX : Nat) (b : Nat) (aB : Nat) (aL : Nat) (aT : Nat) (se : Int32) (n : Nat) (aB0 : Nat) (aB1 : Nat) (aB2 : Nat) (aB3 : Nat) (aB4 : Nat) (aB5 : Nat) (fb : Nat → Int32) (hn : n ≤ 20) (hb : b < 12) : z_M l yX2_fablesWithBeast wsX2_fablesWithBeast { frames := 2, cells := 0, slots := 0, locals := 44 } G D [(cI, .int), (cZ, .boolean), (cQ, .array .int), (cW, .array .boolean)] [.ref aX, .int (nI b)] ([(aX, .inr (2, [.ref aB, .ref aL, .ref aT, .int se])), (aB, .inr (0, [.int (nI n), .ref aB0, .ref aB1, .ref aB2, .ref aB3, .ref aB4, .ref aB5])), (aB1, .inl (cI, 20, .inl fb))]) (some (.int (pc (wbS fb (nI b) n)))) [] 0 0 := by
  have iX2 : ∀ w ∈ u_ws RX2 TX2 4, w ∈ wsX2_fablesWithBeast := fun w h => List.mem_cons_of_mem _ (List.mem_append_left _ (List.mem_append_left _ (List.mem_append_right _ h)))
  have iX0 : ∀ w ∈ u_ws RX0 TX0 7, w ∈ wsX2_fablesWithBeast := fun w h => List.mem_cons_of_mem _ (List.mem_append_left _ (List.mem_append_right _ h))
  refine z_ofW (cc := cX2_fablesWithBeast) (nL := 2) (ret := (some .int)) (by decide) rfl (Nat.le_of_ble_eq_true rfl) [] rfl (lv0 := [(0, .ref aX), (1, .int (nI b))]) rfl ?_
  intro p e s m args below meth c K
  refine z_iload_n K 1 dX2_fablesWithBeast_0 rfl ?_
  refine z_callS (ws' := [(aX, .inr (2, [.ref aB, .ref aL, .ref aT, .int se])), (aB, .inr (0, [.int (nI n), .ref aB0, .ref aB1, .ref aB2, .ref aB3, .ref aB4, .ref aB5])), (aB1, .inl (cI, 20, .inl fb))]) (st' := []) (rest := []) K (m_X2_needBeast l _ D cI cZ cQ cW b (by omega)) gX2_fablesWithBeast_X2_needBeast rfl 1 (by decide +kernel) dX2_fablesWithBeast_1 [] [] [] rfl rfl rfl ⟨by decide, by decide⟩ ⟨by decide, by decide⟩ rfl rfl rfl rfl (Nat.le_of_ble_eq_true rfl) rfl rfl rfl rfl ?_
  refine z_aload_n K 0 dX2_fablesWithBeast_4 rfl ?_
  refine z_get (C := RX2) (T := TX2) (N := 4) (ci := 2) K iX2 rfl 0 rfl 0 (by decide) (by decide +kernel) rfl rfl dX2_fablesWithBeast_5 ?_
  refine z_iload_n K 1 dX2_fablesWithBeast_8 rfl ?_
  refine z_callV (ws' := [(aX, .inr (2, [.ref aB, .ref aL, .ref aT, .int se])), (aB, .inr (0, [.int (nI n), .ref aB0, .ref aB1, .ref aB2, .ref aB3, .ref aB4, .ref aB5])), (aB1, .inl (cI, 20, .inl fb))]) (st' := [.int (wbS fb (nI b) n)]) (rest := []) (C := RX0) (T := TX0) (N := 7) K (m_X0_withBeast l _ D cI cZ cQ cW aB (nI b) n aB0 aB1 aB2 aB3 aB4 aB5 fb (by omega)) gX2_fablesWithBeast_X0_withBeast rfl 1 0 (by decide +kernel) rfl dX2_fablesWithBeast_9 [1, 2] 1 [] [] rfl rfl rfl ⟨by decide, by decide⟩ ⟨by decide, by decide⟩ rfl rfl rfl rfl rfl (Nat.le_of_ble_eq_true rfl) rfl rfl rfl rfl ?_
  refine z_callS (ws' := [(aX, .inr (2, [.ref aB, .ref aL, .ref aT, .int se])), (aB, .inr (0, [.int (nI n), .ref aB0, .ref aB1, .ref aB2, .ref aB3, .ref aB4, .ref aB5])), (aB1, .inl (cI, 20, .inl fb))]) (st' := [.int (pc (wbS fb (nI b) n))]) (rest := []) K (m_X2_size l _ D cI cZ cQ cW (wbS fb (nI b) n) ) gX2_fablesWithBeast_X2_size rfl 1 (by decide +kernel) dX2_fablesWithBeast_12 [] [] [] rfl rfl rfl ⟨by decide, by decide⟩ ⟨by decide, by decide⟩ rfl rfl rfl rfl (Nat.le_of_ble_eq_true rfl) rfl rfl rfl rfl ?_
  exact z_iret K dX2_fablesWithBeast_15 (rfl) [] rfl (by decide) (by decide)

set_option maxRecDepth 100000 in
set_option maxHeartbeats 4000000 in
theorem m_X2_favouriteMoral (l : Launch) (G : Nat → Prop) (D : va_G) (cI cZ cQ cW : ClassId) (aX : Nat) (aB : Nat) (aL : Nat) (aT : Nat) (se : Int32) (n : Nat) (aB0 : Nat) (aB1 : Nat) (aB2 : Nat) (aB3 : Nat) (aB4 : Nat) (aB5 : Nat) (fm : Nat → Int32) (aL0 : Nat) (aL1 : Nat) (aL2 : Nat) (aL3 : Nat) (aL4 : Nat) (aL5 : Nat) (hu : Int32) (lt : Nat → Int32) (hn : n ≤ 20) : z_M l yX2_favouriteMoral wsX2_favouriteMoral { frames := 3, cells := 0, slots := 0, locals := 63 } G D [(cI, .int), (cZ, .boolean), (cQ, .array .int), (cW, .array .boolean)] [.ref aX] ([(aX, .inr (2, [.ref aB, .ref aL, .ref aT, .int se])), (aB, .inr (0, [.int (nI n), .ref aB0, .ref aB1, .ref aB2, .ref aB3, .ref aB4, .ref aB5])), (aB0, .inl (cI, 20, .inl fm)), (aL, .inr (1, [.ref aL0, .ref aL1, .ref aL2, .ref aL3, .ref aL4, .ref aL5, .int hu])), (aL3, .inl (cI, 6, .inl lt))]) (some (.int ((favM lt fm n 10).1))) [] 0 0 := by
  have iX2 : ∀ w ∈ u_ws RX2 TX2 4, w ∈ wsX2_favouriteMoral := fun w h => List.mem_cons_of_mem _ (List.mem_append_left _ (List.mem_append_left _ (List.mem_append_right _ h)))
  have iX0 : ∀ w ∈ u_ws RX0 TX0 7, w ∈ wsX2_favouriteMoral := fun w h => List.mem_cons_of_mem _ (List.mem_append_left _ (List.mem_append_right _ h))
  have iX1 : ∀ w ∈ u_ws RX1 TX1 7, w ∈ wsX2_favouriteMoral := fun w h => List.mem_cons_of_mem _ (List.mem_append_right _ h)
  refine z_ofW (cc := cX2_favouriteMoral) (nL := 5) (ret := (some .int)) (by decide) rfl (Nat.le_of_ble_eq_true rfl) [] rfl (lv0 := [(0, .ref aX)]) rfl ?_
  intro p e s m args below meth c K
  refine z_iconst (v := (-1)) K dX2_favouriteMoral_0 (by decide) ?_
  refine z_istore_n (lv' := [(1, .int (-1)), (0, .ref aX)]) K dX2_favouriteMoral_1 (by decide) rfl ?_
  refine z_iconst (v := 0) K dX2_favouriteMoral_2 (by decide) ?_
  refine z_istore_n (lv' := [(2, .int 0), (1, .int (-1)), (0, .ref aX)]) K dX2_favouriteMoral_3 (by decide) rfl ?_
  refine z_iconst (v := 0) K dX2_favouriteMoral_4 (by decide) ?_
  refine z_istore_n (lv' := [(3, .int 0), (2, .int 0), (1, .int (-1)), (0, .ref aX)]) K dX2_favouriteMoral_5 (by decide) rfl ?_
  refine z_loop (wsf := fun k => [(aX, .inr (2, [.ref aB, .ref aL, .ref aT, .int se])), (aB, .inr (0, [.int (nI n), .ref aB0, .ref aB1, .ref aB2, .ref aB3, .ref aB4, .ref aB5])), (aB0, .inl (cI, 20, .inl fm)), (aL, .inr (1, [.ref aL0, .ref aL1, .ref aL2, .ref aL3, .ref aL4, .ref aL5, .int hu])), (aL3, .inl (cI, 6, .inl lt))]) (lvf := fun k => [(3, .int (nI k)), (2, .int ((favM lt fm n k).2)), (1, .int ((favM lt fm n k).1)), (0, .ref aX)]) 10 rfl rfl ?_ (fun k hk ihk => ?_)
  · refine z_iload_n K 0 dX2_favouriteMoral_6 rfl ?_
    refine z_bipush (v := 10) K dX2_favouriteMoral_7 (by decide) ?_
    refine z_cmpN K 46 10 10 dX2_favouriteMoral_9 (by decide) rfl rfl (by omega) (by omega) (fun _ => ?_) (fun h => absurd h (by omega))
    refine z_iload_n K 2 dX2_favouriteMoral_46 rfl ?_
    exact z_iret K dX2_favouriteMoral_47 (rfl) [] rfl (by decide) (by decide)
  · refine z_iload_n K 0 dX2_favouriteMoral_6 rfl ?_
    refine z_bipush (v := 10) K dX2_favouriteMoral_7 (by decide) ?_
    refine z_cmpN K 46 k 10 dX2_favouriteMoral_9 (by decide) rfl rfl (by omega) (by omega) (fun h => absurd h (by omega)) (fun _ => ?_)
    refine z_aload_n K 3 dX2_favouriteMoral_12 rfl ?_
    refine z_get (C := RX2) (T := TX2) (N := 4) (ci := 2) K iX2 rfl 0 rfl 1 (by decide) (by decide +kernel) rfl rfl dX2_favouriteMoral_13 ?_
    refine z_aload_n K 3 dX2_favouriteMoral_16 rfl ?_
    refine z_get (C := RX2) (T := TX2) (N := 4) (ci := 2) K iX2 rfl 0 rfl 0 (by decide) (by decide +kernel) rfl rfl dX2_favouriteMoral_17 ?_
    refine z_iload_n K 0 dX2_favouriteMoral_20 rfl ?_
    refine z_callV (ws' := [(aX, .inr (2, [.ref aB, .ref aL, .ref aT, .int se])), (aB, .inr (0, [.int (nI n), .ref aB0, .ref aB1, .ref aB2, .ref aB3, .ref aB4, .ref aB5])), (aB0, .inl (cI, 20, .inl fm)), (aL, .inr (1, [.ref aL0, .ref aL1, .ref aL2, .ref aL3, .ref aL4, .ref aL5, .int hu])), (aL3, .inl (cI, 6, .inl lt))]) (st' := [.int (wmS fm (nI k) n), .ref aL]) (rest := [.ref aL]) (C := RX0) (T := TX0) (N := 7) K (m_X0_withMoral l _ D cI cZ cQ cW aB (nI k) n aB0 aB1 aB2 aB3 aB4 aB5 fm (by omega)) gX2_favouriteMoral_X0_withMoral rfl 1 0 (by decide +kernel) rfl dX2_favouriteMoral_21 [1, 2] 1 [] [] rfl rfl rfl ⟨by decide, by decide⟩ ⟨by decide, by decide⟩ rfl rfl rfl rfl rfl (Nat.le_of_ble_eq_true rfl) rfl rfl rfl rfl ?_
    refine z_callV (ws' := [(aX, .inr (2, [.ref aB, .ref aL, .ref aT, .int se])), (aB, .inr (0, [.int (nI n), .ref aB0, .ref aB1, .ref aB2, .ref aB3, .ref aB4, .ref aB5])), (aB0, .inl (cI, 20, .inl fm)), (aL, .inr (1, [.ref aL0, .ref aL1, .ref aL2, .ref aL3, .ref aL4, .ref aL5, .int hu])), (aL3, .inl (cI, 6, .inl lt))]) (st' := [.int (cntS lt (wmS fm (nI k) n) 6)]) (rest := []) (C := RX1) (T := TX1) (N := 7) K (m_X1_count l _ D cI cZ cQ cW aL (wmS fm (nI k) n) aL0 aL1 aL2 aL3 aL4 aL5 hu lt ) gX2_favouriteMoral_X1_count rfl 1 1 (by decide +kernel) rfl dX2_favouriteMoral_24 [3, 4] 3 [] [] rfl rfl rfl ⟨by decide, by decide⟩ ⟨by decide, by decide⟩ rfl rfl rfl rfl rfl (Nat.le_of_ble_eq_true rfl) rfl rfl rfl rfl ?_
    refine z_istore (lv' := [(4, .int (cntS lt (wmS fm (nI k) n) 6)), (3, .int (nI k)), (2, .int ((favM lt fm n k).2)), (1, .int ((favM lt fm n k).1)), (0, .ref aX)]) K dX2_favouriteMoral_27 (by decide) rfl ?_
    refine z_iload K 0 dX2_favouriteMoral_29 rfl ?_
    refine z_iload_n K 2 dX2_favouriteMoral_31 rfl ?_
    refine z_icmp_le K 40 dX2_favouriteMoral_32 (by decide) (fun c32 => ?_) (fun c32 => ?_)
    · refine z_iinc (lv' := [(3, .int (nI (k + 1))), (4, .int (cntS lt (wmS fm (nI k) n) 6)), (2, .int ((favM lt fm n k).2)), (1, .int ((favM lt fm n k).1)), (0, .ref aX)]) (v := nI (k + 1)) K 1 dX2_favouriteMoral_40 rfl (z_inc1 k) (by decide) rfl ?_
      refine z_goto K 6 dX2_favouriteMoral_43 (by decide) ?_
      refine z_lv (lv' := [(3, .int (nI (k + 1))), (2, .int ((favM lt fm n k).2)), (1, .int ((favM lt fm n k).1)), (0, .ref aX)]) [0, 2, 3, 4] rfl ?_
      rw [show ((favM lt fm n (k + 1)).2) = ((favM lt fm n k).2) from (by first | (simp only [favM_succ, c32, Bool.false_eq_true, if_false, if_true, ↓reduceIte]; done) | rfl | simp [favM_succ, c32])] at ihk
      rw [show ((favM lt fm n (k + 1)).1) = ((favM lt fm n k).1) from (by first | (simp only [favM_succ, c32, Bool.false_eq_true, if_false, if_true, ↓reduceIte]; done) | rfl | simp [favM_succ, c32])] at ihk
      exact ihk
    · refine z_iload K 0 dX2_favouriteMoral_35 rfl ?_
      refine z_istore_n (lv' := [(2, .int (cntS lt (wmS fm (nI k) n) 6)), (4, .int (cntS lt (wmS fm (nI k) n) 6)), (3, .int (nI k)), (1, .int ((favM lt fm n k).1)), (0, .ref aX)]) K dX2_favouriteMoral_37 (by decide) rfl ?_
      refine z_iload_n K 2 dX2_favouriteMoral_38 rfl ?_
      refine z_istore_n (lv' := [(1, .int (nI k)), (2, .int (cntS lt (wmS fm (nI k) n) 6)), (4, .int (cntS lt (wmS fm (nI k) n) 6)), (3, .int (nI k)), (0, .ref aX)]) K dX2_favouriteMoral_39 (by decide) rfl ?_
      refine z_iinc (lv' := [(3, .int (nI (k + 1))), (1, .int (nI k)), (2, .int (cntS lt (wmS fm (nI k) n) 6)), (4, .int (cntS lt (wmS fm (nI k) n) 6)), (0, .ref aX)]) (v := nI (k + 1)) K 3 dX2_favouriteMoral_40 rfl (z_inc1 k) (by decide) rfl ?_
      refine z_goto K 6 dX2_favouriteMoral_43 (by decide) ?_
      refine z_lv (lv' := [(3, .int (nI (k + 1))), (2, .int (cntS lt (wmS fm (nI k) n) 6)), (1, .int (nI k)), (0, .ref aX)]) [0, 2, 1, 4] rfl ?_
      rw [show ((favM lt fm n (k + 1)).2) = (cntS lt (wmS fm (nI k) n) 6) from (by first | (simp only [favM_succ, c32, Bool.false_eq_true, if_false, if_true, ↓reduceIte]; done) | rfl | simp [favM_succ, c32])] at ihk
      rw [show ((favM lt fm n (k + 1)).1) = (nI k) from (by first | (simp only [favM_succ, c32, Bool.false_eq_true, if_false, if_true, ↓reduceIte]; done) | rfl | simp [favM_succ, c32])] at ihk
      exact ihk

set_option maxRecDepth 100000 in
set_option maxHeartbeats 4000000 in
theorem m_X2_favouriteBeast (l : Launch) (G : Nat → Prop) (D : va_G) (cI cZ cQ cW : ClassId) (aX : Nat) (aB : Nat) (aL : Nat) (aT : Nat) (se : Int32) (n : Nat) (aB0 : Nat) (aB1 : Nat) (aB2 : Nat) (aB3 : Nat) (aB4 : Nat) (aB5 : Nat) (fb : Nat → Int32) (aL0 : Nat) (aL1 : Nat) (aL2 : Nat) (aL3 : Nat) (aL4 : Nat) (aL5 : Nat) (hu : Int32) (lt : Nat → Int32) (hn : n ≤ 20) : z_M l yX2_favouriteBeast wsX2_favouriteBeast { frames := 3, cells := 0, slots := 0, locals := 63 } G D [(cI, .int), (cZ, .boolean), (cQ, .array .int), (cW, .array .boolean)] [.ref aX] ([(aX, .inr (2, [.ref aB, .ref aL, .ref aT, .int se])), (aB, .inr (0, [.int (nI n), .ref aB0, .ref aB1, .ref aB2, .ref aB3, .ref aB4, .ref aB5])), (aB1, .inl (cI, 20, .inl fb)), (aL, .inr (1, [.ref aL0, .ref aL1, .ref aL2, .ref aL3, .ref aL4, .ref aL5, .int hu])), (aL3, .inl (cI, 6, .inl lt))]) (some (.int ((favB lt fb n 12).1))) [] 0 0 := by
  have iX2 : ∀ w ∈ u_ws RX2 TX2 4, w ∈ wsX2_favouriteBeast := fun w h => List.mem_cons_of_mem _ (List.mem_append_left _ (List.mem_append_left _ (List.mem_append_right _ h)))
  have iX0 : ∀ w ∈ u_ws RX0 TX0 7, w ∈ wsX2_favouriteBeast := fun w h => List.mem_cons_of_mem _ (List.mem_append_left _ (List.mem_append_right _ h))
  have iX1 : ∀ w ∈ u_ws RX1 TX1 7, w ∈ wsX2_favouriteBeast := fun w h => List.mem_cons_of_mem _ (List.mem_append_right _ h)
  refine z_ofW (cc := cX2_favouriteBeast) (nL := 5) (ret := (some .int)) (by decide) rfl (Nat.le_of_ble_eq_true rfl) [] rfl (lv0 := [(0, .ref aX)]) rfl ?_
  intro p e s m args below meth c K
  refine z_iconst (v := (-1)) K dX2_favouriteBeast_0 (by decide) ?_
  refine z_istore_n (lv' := [(1, .int (-1)), (0, .ref aX)]) K dX2_favouriteBeast_1 (by decide) rfl ?_
  refine z_iconst (v := 0) K dX2_favouriteBeast_2 (by decide) ?_
  refine z_istore_n (lv' := [(2, .int 0), (1, .int (-1)), (0, .ref aX)]) K dX2_favouriteBeast_3 (by decide) rfl ?_
  refine z_iconst (v := 0) K dX2_favouriteBeast_4 (by decide) ?_
  refine z_istore_n (lv' := [(3, .int 0), (2, .int 0), (1, .int (-1)), (0, .ref aX)]) K dX2_favouriteBeast_5 (by decide) rfl ?_
  refine z_loop (wsf := fun k => [(aX, .inr (2, [.ref aB, .ref aL, .ref aT, .int se])), (aB, .inr (0, [.int (nI n), .ref aB0, .ref aB1, .ref aB2, .ref aB3, .ref aB4, .ref aB5])), (aB1, .inl (cI, 20, .inl fb)), (aL, .inr (1, [.ref aL0, .ref aL1, .ref aL2, .ref aL3, .ref aL4, .ref aL5, .int hu])), (aL3, .inl (cI, 6, .inl lt))]) (lvf := fun k => [(3, .int (nI k)), (2, .int ((favB lt fb n k).2)), (1, .int ((favB lt fb n k).1)), (0, .ref aX)]) 12 rfl rfl ?_ (fun k hk ihk => ?_)
  · refine z_iload_n K 0 dX2_favouriteBeast_6 rfl ?_
    refine z_bipush (v := 12) K dX2_favouriteBeast_7 (by decide) ?_
    refine z_cmpN K 46 12 12 dX2_favouriteBeast_9 (by decide) rfl rfl (by omega) (by omega) (fun _ => ?_) (fun h => absurd h (by omega))
    refine z_iload_n K 2 dX2_favouriteBeast_46 rfl ?_
    exact z_iret K dX2_favouriteBeast_47 (rfl) [] rfl (by decide) (by decide)
  · refine z_iload_n K 0 dX2_favouriteBeast_6 rfl ?_
    refine z_bipush (v := 12) K dX2_favouriteBeast_7 (by decide) ?_
    refine z_cmpN K 46 k 12 dX2_favouriteBeast_9 (by decide) rfl rfl (by omega) (by omega) (fun h => absurd h (by omega)) (fun _ => ?_)
    refine z_aload_n K 3 dX2_favouriteBeast_12 rfl ?_
    refine z_get (C := RX2) (T := TX2) (N := 4) (ci := 2) K iX2 rfl 0 rfl 1 (by decide) (by decide +kernel) rfl rfl dX2_favouriteBeast_13 ?_
    refine z_aload_n K 3 dX2_favouriteBeast_16 rfl ?_
    refine z_get (C := RX2) (T := TX2) (N := 4) (ci := 2) K iX2 rfl 0 rfl 0 (by decide) (by decide +kernel) rfl rfl dX2_favouriteBeast_17 ?_
    refine z_iload_n K 0 dX2_favouriteBeast_20 rfl ?_
    refine z_callV (ws' := [(aX, .inr (2, [.ref aB, .ref aL, .ref aT, .int se])), (aB, .inr (0, [.int (nI n), .ref aB0, .ref aB1, .ref aB2, .ref aB3, .ref aB4, .ref aB5])), (aB1, .inl (cI, 20, .inl fb)), (aL, .inr (1, [.ref aL0, .ref aL1, .ref aL2, .ref aL3, .ref aL4, .ref aL5, .int hu])), (aL3, .inl (cI, 6, .inl lt))]) (st' := [.int (wbS fb (nI k) n), .ref aL]) (rest := [.ref aL]) (C := RX0) (T := TX0) (N := 7) K (m_X0_withBeast l _ D cI cZ cQ cW aB (nI k) n aB0 aB1 aB2 aB3 aB4 aB5 fb (by omega)) gX2_favouriteBeast_X0_withBeast rfl 1 0 (by decide +kernel) rfl dX2_favouriteBeast_21 [1, 2] 1 [] [] rfl rfl rfl ⟨by decide, by decide⟩ ⟨by decide, by decide⟩ rfl rfl rfl rfl rfl (Nat.le_of_ble_eq_true rfl) rfl rfl rfl rfl ?_
    refine z_callV (ws' := [(aX, .inr (2, [.ref aB, .ref aL, .ref aT, .int se])), (aB, .inr (0, [.int (nI n), .ref aB0, .ref aB1, .ref aB2, .ref aB3, .ref aB4, .ref aB5])), (aB1, .inl (cI, 20, .inl fb)), (aL, .inr (1, [.ref aL0, .ref aL1, .ref aL2, .ref aL3, .ref aL4, .ref aL5, .int hu])), (aL3, .inl (cI, 6, .inl lt))]) (st' := [.int (cntS lt (wbS fb (nI k) n) 6)]) (rest := []) (C := RX1) (T := TX1) (N := 7) K (m_X1_count l _ D cI cZ cQ cW aL (wbS fb (nI k) n) aL0 aL1 aL2 aL3 aL4 aL5 hu lt ) gX2_favouriteBeast_X1_count rfl 1 1 (by decide +kernel) rfl dX2_favouriteBeast_24 [3, 4] 3 [] [] rfl rfl rfl ⟨by decide, by decide⟩ ⟨by decide, by decide⟩ rfl rfl rfl rfl rfl (Nat.le_of_ble_eq_true rfl) rfl rfl rfl rfl ?_
    refine z_istore (lv' := [(4, .int (cntS lt (wbS fb (nI k) n) 6)), (3, .int (nI k)), (2, .int ((favB lt fb n k).2)), (1, .int ((favB lt fb n k).1)), (0, .ref aX)]) K dX2_favouriteBeast_27 (by decide) rfl ?_
    refine z_iload K 0 dX2_favouriteBeast_29 rfl ?_
    refine z_iload_n K 2 dX2_favouriteBeast_31 rfl ?_
    refine z_icmp_le K 40 dX2_favouriteBeast_32 (by decide) (fun c32 => ?_) (fun c32 => ?_)
    · refine z_iinc (lv' := [(3, .int (nI (k + 1))), (4, .int (cntS lt (wbS fb (nI k) n) 6)), (2, .int ((favB lt fb n k).2)), (1, .int ((favB lt fb n k).1)), (0, .ref aX)]) (v := nI (k + 1)) K 1 dX2_favouriteBeast_40 rfl (z_inc1 k) (by decide) rfl ?_
      refine z_goto K 6 dX2_favouriteBeast_43 (by decide) ?_
      refine z_lv (lv' := [(3, .int (nI (k + 1))), (2, .int ((favB lt fb n k).2)), (1, .int ((favB lt fb n k).1)), (0, .ref aX)]) [0, 2, 3, 4] rfl ?_
      rw [show ((favB lt fb n (k + 1)).2) = ((favB lt fb n k).2) from (by first | (simp only [favB_succ, c32, Bool.false_eq_true, if_false, if_true, ↓reduceIte]; done) | rfl | simp [favB_succ, c32])] at ihk
      rw [show ((favB lt fb n (k + 1)).1) = ((favB lt fb n k).1) from (by first | (simp only [favB_succ, c32, Bool.false_eq_true, if_false, if_true, ↓reduceIte]; done) | rfl | simp [favB_succ, c32])] at ihk
      exact ihk
    · refine z_iload K 0 dX2_favouriteBeast_35 rfl ?_
      refine z_istore_n (lv' := [(2, .int (cntS lt (wbS fb (nI k) n) 6)), (4, .int (cntS lt (wbS fb (nI k) n) 6)), (3, .int (nI k)), (1, .int ((favB lt fb n k).1)), (0, .ref aX)]) K dX2_favouriteBeast_37 (by decide) rfl ?_
      refine z_iload_n K 2 dX2_favouriteBeast_38 rfl ?_
      refine z_istore_n (lv' := [(1, .int (nI k)), (2, .int (cntS lt (wbS fb (nI k) n) 6)), (4, .int (cntS lt (wbS fb (nI k) n) 6)), (3, .int (nI k)), (0, .ref aX)]) K dX2_favouriteBeast_39 (by decide) rfl ?_
      refine z_iinc (lv' := [(3, .int (nI (k + 1))), (1, .int (nI k)), (2, .int (cntS lt (wbS fb (nI k) n) 6)), (4, .int (cntS lt (wbS fb (nI k) n) 6)), (0, .ref aX)]) (v := nI (k + 1)) K 3 dX2_favouriteBeast_40 rfl (z_inc1 k) (by decide) rfl ?_
      refine z_goto K 6 dX2_favouriteBeast_43 (by decide) ?_
      refine z_lv (lv' := [(3, .int (nI (k + 1))), (2, .int (cntS lt (wbS fb (nI k) n) 6)), (1, .int (nI k)), (0, .ref aX)]) [0, 2, 1, 4] rfl ?_
      rw [show ((favB lt fb n (k + 1)).2) = (cntS lt (wbS fb (nI k) n) 6) from (by first | (simp only [favB_succ, c32, Bool.false_eq_true, if_false, if_true, ↓reduceIte]; done) | rfl | simp [favB_succ, c32])] at ihk
      rw [show ((favB lt fb n (k + 1)).1) = (nI k) from (by first | (simp only [favB_succ, c32, Bool.false_eq_true, if_false, if_true, ↓reduceIte]; done) | rfl | simp [favB_succ, c32])] at ihk
      exact ihk

set_option maxRecDepth 100000 in
set_option maxHeartbeats 4000000 in
theorem m_X2_meanBeasts (l : Launch) (G : Nat → Prop) (D : va_G) (cI cZ cQ cW : ClassId) (aX : Nat) (aB : Nat) (aL : Nat) (aT : Nat) (se : Int32) (n : Nat) (aB0 : Nat) (aB1 : Nat) (aB2 : Nat) (aB3 : Nat) (aB4 : Nat) (aB5 : Nat) (fb : Nat → Int32) (hn : n ≤ 20) : z_M l yX2_meanBeasts wsX2_meanBeasts { frames := 2, cells := 0, slots := 0, locals := 40 } G D [(cI, .int), (cZ, .boolean), (cQ, .array .int), (cW, .array .boolean)] [.ref aX] ([(aX, .inr (2, [.ref aB, .ref aL, .ref aT, .int se])), (aB, .inr (0, [.int (nI n), .ref aB0, .ref aB1, .ref aB2, .ref aB3, .ref aB4, .ref aB5])), (aB1, .inl (cI, 20, .inl fb))]) (some (.double (meaD fb n))) [] 0 0 := by
  have iX2 : ∀ w ∈ u_ws RX2 TX2 4, w ∈ wsX2_meanBeasts := fun w h => List.mem_cons_of_mem _ (List.mem_append_left _ (List.mem_append_right _ h))
  have iX0 : ∀ w ∈ u_ws RX0 TX0 7, w ∈ wsX2_meanBeasts := fun w h => List.mem_cons_of_mem _ (List.mem_append_right _ h)
  refine z_ofW (cc := cX2_meanBeasts) (nL := 3) (ret := (some .double)) (by decide) rfl (Nat.le_of_ble_eq_true rfl) [] rfl (lv0 := [(0, .ref aX)]) rfl ?_
  intro p e s m args below meth c K
  refine z_aload_n K 0 dX2_meanBeasts_0 rfl ?_
  refine z_get (C := RX2) (T := TX2) (N := 4) (ci := 2) K iX2 rfl 0 rfl 0 (by decide) (by decide +kernel) rfl rfl dX2_meanBeasts_1 ?_
  refine z_get (C := RX0) (T := TX0) (N := 7) (ci := 0) K iX0 rfl 1 rfl 0 (by decide) (by decide +kernel) rfl rfl dX2_meanBeasts_4 ?_
  refine z_if_ne K 12 dX2_meanBeasts_7 (by decide) (fun c7 => ?_) (fun c7 => ?_)
  · refine z_iconst (v := 0) K dX2_meanBeasts_12 (by decide) ?_
    refine z_istore_n (lv' := [(1, .int 0), (0, .ref aX)]) K dX2_meanBeasts_13 (by decide) rfl ?_
    refine z_iconst (v := 0) K dX2_meanBeasts_14 (by decide) ?_
    refine z_istore_n (lv' := [(2, .int 0), (1, .int 0), (0, .ref aX)]) K dX2_meanBeasts_15 (by decide) rfl ?_
    refine z_loop (wsf := fun k => [(aX, .inr (2, [.ref aB, .ref aL, .ref aT, .int se])), (aB, .inr (0, [.int (nI n), .ref aB0, .ref aB1, .ref aB2, .ref aB3, .ref aB4, .ref aB5])), (aB1, .inl (cI, 20, .inl fb))]) (lvf := fun k => [(2, .int (nI k)), (1, .int (sumB fb k)), (0, .ref aX)]) n (by first | (simp only [sumB_0]; done) | (simp only [sumB_0]; rfl) | rfl) (by first | (simp only [sumB_0]; done) | (simp only [sumB_0]; rfl) | rfl) ?_ (fun k hk ihk => ?_)
    · refine z_iload_n K 0 dX2_meanBeasts_16 rfl ?_
      refine z_aload_n K 2 dX2_meanBeasts_17 rfl ?_
      refine z_get (C := RX2) (T := TX2) (N := 4) (ci := 2) K iX2 rfl 0 rfl 0 (by decide) (by decide +kernel) rfl rfl dX2_meanBeasts_18 ?_
      refine z_get (C := RX0) (T := TX0) (N := 7) (ci := 0) K iX0 rfl 1 rfl 0 (by decide) (by decide +kernel) rfl rfl dX2_meanBeasts_21 ?_
      refine z_cmpN K 48 n n dX2_meanBeasts_24 (by decide) rfl rfl (by omega) (by omega) (fun _ => ?_) (fun h => absurd h (by omega))
      refine z_iload_n K 1 dX2_meanBeasts_48 rfl ?_
      refine z_i2d K dX2_meanBeasts_49 ?_
      refine z_aload_n K 2 dX2_meanBeasts_50 rfl ?_
      refine z_get (C := RX2) (T := TX2) (N := 4) (ci := 2) K iX2 rfl 0 rfl 0 (by decide) (by decide +kernel) rfl rfl dX2_meanBeasts_51 ?_
      refine z_get (C := RX0) (T := TX0) (N := 7) (ci := 0) K iX0 rfl 1 rfl 0 (by decide) (by decide +kernel) rfl rfl dX2_meanBeasts_54 ?_
      refine z_i2d K dX2_meanBeasts_57 ?_
      refine z_ddiv K dX2_meanBeasts_58 (mea_ok fb hn c7) ?_
      exact z_dret K dX2_meanBeasts_59 ((by first | (simp only [meaD, c7, Bool.false_eq_true, if_false, if_true, ↓reduceIte]; done) | rfl | simp [meaD, c7])) [] rfl (by decide) (by decide)
    · refine z_iload_n K 0 dX2_meanBeasts_16 rfl ?_
      refine z_aload_n K 2 dX2_meanBeasts_17 rfl ?_
      refine z_get (C := RX2) (T := TX2) (N := 4) (ci := 2) K iX2 rfl 0 rfl 0 (by decide) (by decide +kernel) rfl rfl dX2_meanBeasts_18 ?_
      refine z_get (C := RX0) (T := TX0) (N := 7) (ci := 0) K iX0 rfl 1 rfl 0 (by decide) (by decide +kernel) rfl rfl dX2_meanBeasts_21 ?_
      refine z_cmpN K 48 k n dX2_meanBeasts_24 (by decide) rfl rfl (by omega) (by omega) (fun h => absurd h (by omega)) (fun _ => ?_)
      refine z_iload_n K 1 dX2_meanBeasts_27 rfl ?_
      refine z_aload_n K 2 dX2_meanBeasts_28 rfl ?_
      refine z_get (C := RX2) (T := TX2) (N := 4) (ci := 2) K iX2 rfl 0 rfl 0 (by decide) (by decide +kernel) rfl rfl dX2_meanBeasts_29 ?_
      refine z_get (C := RX0) (T := TX0) (N := 7) (ci := 0) K iX0 rfl 1 rfl 2 (by decide) (by decide +kernel) rfl rfl dX2_meanBeasts_32 ?_
      refine z_iload_n K 0 dX2_meanBeasts_35 rfl ?_
      refine z_ialdN K 2 0 k (by omega) (by omega) rfl rfl dX2_meanBeasts_36 ?_
      refine z_callS (ws' := [(aX, .inr (2, [.ref aB, .ref aL, .ref aT, .int se])), (aB, .inr (0, [.int (nI n), .ref aB0, .ref aB1, .ref aB2, .ref aB3, .ref aB4, .ref aB5])), (aB1, .inl (cI, 20, .inl fb))]) (st' := [.int (pc (fb k)), .int (sumB fb k)]) (rest := [.int (sumB fb k)]) K (m_X2_size l _ D cI cZ cQ cW (fb k) ) gX2_meanBeasts_X2_size rfl 1 (by decide +kernel) dX2_meanBeasts_37 [] [] [] rfl rfl rfl ⟨by decide, by decide⟩ ⟨by decide, by decide⟩ rfl rfl rfl rfl (Nat.le_of_ble_eq_true rfl) rfl rfl rfl rfl ?_
      refine z_iadd K dX2_meanBeasts_40 ?_
      refine z_istore_n (lv' := [(1, .int (sumB fb k + (pc (fb k)))), (2, .int (nI k)), (0, .ref aX)]) K dX2_meanBeasts_41 (by decide) rfl ?_
      refine z_iinc (lv' := [(2, .int (nI (k + 1))), (1, .int (sumB fb k + (pc (fb k)))), (0, .ref aX)]) (v := nI (k + 1)) K 1 dX2_meanBeasts_42 rfl (z_inc1 k) (by decide) rfl ?_
      refine z_goto K 16 dX2_meanBeasts_45 (by decide) ?_
      rw [show (sumB fb (k + 1)) = (sumB fb k + (pc (fb k))) from (by rw [sumB_succ])] at ihk
      exact ihk
  · refine z_dconst0 K dX2_meanBeasts_10 ?_
    exact z_dret K dX2_meanBeasts_11 ((by first | (simp only [meaD, c7, Bool.false_eq_true, if_false, if_true, ↓reduceIte]; done) | rfl | simp [meaD, c7])) [] rfl (by decide) (by decide)
end
