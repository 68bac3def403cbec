section
-- ===== PART A: goes FIRST, ahead of the names: the tables' words, and 'selects' of the private methods out of them =====
/-- a private method of a class that the tables say can be made, by its rows of tables_1 -/
def lw_okq (q : MethodName × Nat) : Prop := (q.1.cls ≠ "java/lang/invoke/MethodHandle" ∧ q.1.cls ≠ "java/lang/invoke/VarHandle") ∧ Cond.instantiable q.1.cls q.2 ∈ tables_1 ∧ Cond.privateMethod q.1 ∈ tables_1 ∧ Cond.instanceMethod q.1 ∈ tables_1
theorem lw_p0 : lw_okq (⟨"FableIndex", "mixedWithFable", "(JI)J"⟩, 4) := ⟨⟨by decide +kernel, by decide +kernel⟩, List.mem_of_getElem? (i := 14) (by decide +kernel), List.mem_of_getElem? (i := 180) (by decide +kernel), List.mem_of_getElem? (i := 181) (by decide +kernel)⟩
theorem lw_p1 : lw_okq (⟨"FableIndex", "needFable", "(I)V"⟩, 4) := ⟨⟨by decide +kernel, by decide +kernel⟩, List.mem_of_getElem? (i := 14) (by decide +kernel), List.mem_of_getElem? (i := 188) (by decide +kernel), List.mem_of_getElem? (i := 189) (by decide +kernel)⟩
theorem lw_p2 : lw_okq (⟨"java/lang/Throwable", "fillInStackTrace", "(I)Ljava/lang/Throwable;"⟩, 6) := ⟨⟨by decide +kernel, by decide +kernel⟩, List.mem_of_getElem? (i := 230) (by decide +kernel), List.mem_of_getElem? (i := 228) (by decide +kernel), List.mem_of_getElem? (i := 229) (by decide +kernel)⟩
theorem lw_p3 : lw_okq (⟨"FableIndex", "mixedWithValley", "(JI)J"⟩, 4) := ⟨⟨by decide +kernel, by decide +kernel⟩, List.mem_of_getElem? (i := 14) (by decide +kernel), List.mem_of_getElem? (i := 306) (by decide +kernel), List.mem_of_getElem? (i := 307) (by decide +kernel)⟩
theorem lw_p4 : lw_okq (⟨"FableIndex", "needFreePage", "()V"⟩, 4) := ⟨⟨by decide +kernel, by decide +kernel⟩, List.mem_of_getElem? (i := 14) (by decide +kernel), List.mem_of_getElem? (i := 344) (by decide +kernel), List.mem_of_getElem? (i := 345) (by decide +kernel)⟩
theorem lw_p5 : lw_okq (⟨"FableIndex$Land", "hush", "()V"⟩, 7) := ⟨⟨by decide +kernel, by decide +kernel⟩, List.mem_of_getElem? (i := 62) (by decide +kernel), List.mem_of_getElem? (i := 465) (by decide +kernel), List.mem_of_getElem? (i := 466) (by decide +kernel)⟩
theorem lw_p6 : lw_okq (⟨"FableIndex$Land", "spread", "(LFableIndex$Book;)Z"⟩, 7) := ⟨⟨by decide +kernel, by decide +kernel⟩, List.mem_of_getElem? (i := 62) (by decide +kernel), List.mem_of_getElem? (i := 469) (by decide +kernel), List.mem_of_getElem? (i := 470) (by decide +kernel)⟩
theorem lw_p7 : lw_okq (⟨"FableIndex$Land", "arriving", "(I)I"⟩, 7) := ⟨⟨by decide +kernel, by decide +kernel⟩, List.mem_of_getElem? (i := 62) (by decide +kernel), List.mem_of_getElem? (i := 473) (by decide +kernel), List.mem_of_getElem? (i := 474) (by decide +kernel)⟩
theorem lw_p8 : lw_okq (⟨"FableIndex$Land", "admitted", "(LFableIndex$Book;II)I"⟩, 7) := ⟨⟨by decide +kernel, by decide +kernel⟩, List.mem_of_getElem? (i := 62) (by decide +kernel), List.mem_of_getElem? (i := 477) (by decide +kernel), List.mem_of_getElem? (i := 478) (by decide +kernel)⟩
theorem lw_p9 : lw_okq (⟨"FableIndex", "tellingsOfTrial", "(I)I"⟩, 4) := ⟨⟨by decide +kernel, by decide +kernel⟩, List.mem_of_getElem? (i := 14) (by decide +kernel), List.mem_of_getElem? (i := 592) (by decide +kernel), List.mem_of_getElem? (i := 593) (by decide +kernel)⟩
theorem lw_p10 : lw_okq (⟨"FableIndex", "tellingsWithPass", "(III)I"⟩, 4) := ⟨⟨by decide +kernel, by decide +kernel⟩, List.mem_of_getElem? (i := 14) (by decide +kernel), List.mem_of_getElem? (i := 603) (by decide +kernel), List.mem_of_getElem? (i := 604) (by decide +kernel)⟩
theorem lw_p11 : lw_okq (⟨"FableIndexModel", "fail", "(I)I"⟩, 14) := ⟨⟨by decide +kernel, by decide +kernel⟩, List.mem_of_getElem? (i := 607) (by decide +kernel), List.mem_of_getElem? (i := 676) (by decide +kernel), List.mem_of_getElem? (i := 677) (by decide +kernel)⟩
theorem lw_p12 : lw_okq (⟨"FableIndexModel", "write", "(IIII)I"⟩, 14) := ⟨⟨by decide +kernel, by decide +kernel⟩, List.mem_of_getElem? (i := 607) (by decide +kernel), List.mem_of_getElem? (i := 680) (by decide +kernel), List.mem_of_getElem? (i := 681) (by decide +kernel)⟩
theorem lw_p13 : lw_okq (⟨"FableIndexModel", "isFable", "(I)Z"⟩, 14) := ⟨⟨by decide +kernel, by decide +kernel⟩, List.mem_of_getElem? (i := 607) (by decide +kernel), List.mem_of_getElem? (i := 688) (by decide +kernel), List.mem_of_getElem? (i := 689) (by decide +kernel)⟩
theorem lw_p14 : lw_okq (⟨"FableIndexModel", "children", "(I)I"⟩, 14) := ⟨⟨by decide +kernel, by decide +kernel⟩, List.mem_of_getElem? (i := 607) (by decide +kernel), List.mem_of_getElem? (i := 695) (by decide +kernel), List.mem_of_getElem? (i := 696) (by decide +kernel)⟩
theorem lw_p15 : lw_okq (⟨"FableIndexModel", "failed", "(I)Z"⟩, 14) := ⟨⟨by decide +kernel, by decide +kernel⟩, List.mem_of_getElem? (i := 607) (by decide +kernel), List.mem_of_getElem? (i := 710) (by decide +kernel), List.mem_of_getElem? (i := 711) (by decide +kernel)⟩
def lw_privs_1 : List (MethodName × Nat) := [(⟨"FableIndex", "mixedWithFable", "(JI)J"⟩, 4), (⟨"FableIndex", "needFable", "(I)V"⟩, 4), (⟨"java/lang/Throwable", "fillInStackTrace", "(I)Ljava/lang/Throwable;"⟩, 6), (⟨"FableIndex", "mixedWithValley", "(JI)J"⟩, 4), (⟨"FableIndex", "needFreePage", "()V"⟩, 4), (⟨"FableIndex$Land", "hush", "()V"⟩, 7), (⟨"FableIndex$Land", "spread", "(LFableIndex$Book;)Z"⟩, 7), (⟨"FableIndex$Land", "arriving", "(I)I"⟩, 7), (⟨"FableIndex$Land", "admitted", "(LFableIndex$Book;II)I"⟩, 7), (⟨"FableIndex", "tellingsOfTrial", "(I)I"⟩, 4), (⟨"FableIndex", "tellingsWithPass", "(III)I"⟩, 4), (⟨"FableIndexModel", "fail", "(I)I"⟩, 14), (⟨"FableIndexModel", "write", "(IIII)I"⟩, 14), (⟨"FableIndexModel", "isFable", "(I)Z"⟩, 14), (⟨"FableIndexModel", "children", "(I)I"⟩, 14), (⟨"FableIndexModel", "failed", "(I)Z"⟩, 14)]
theorem lw_r1 : ∀ q ∈ lw_privs_1, lw_okq q := List.forall_mem_cons.mpr ⟨lw_p0, List.forall_mem_cons.mpr ⟨lw_p1, List.forall_mem_cons.mpr ⟨lw_p2, List.forall_mem_cons.mpr ⟨lw_p3, List.forall_mem_cons.mpr ⟨lw_p4, List.forall_mem_cons.mpr ⟨lw_p5, List.forall_mem_cons.mpr ⟨lw_p6, List.forall_mem_cons.mpr ⟨lw_p7, List.forall_mem_cons.mpr ⟨lw_p8, List.forall_mem_cons.mpr ⟨lw_p9, List.forall_mem_cons.mpr ⟨lw_p10, List.forall_mem_cons.mpr ⟨lw_p11, List.forall_mem_cons.mpr ⟨lw_p12, List.forall_mem_cons.mpr ⟨lw_p13, List.forall_mem_cons.mpr ⟨lw_p14, List.forall_mem_cons.mpr ⟨lw_p15, fun _ h => absurd h List.not_mem_nil⟩⟩⟩⟩⟩⟩⟩⟩⟩⟩⟩⟩⟩⟩⟩⟩
theorem lw_p16 : lw_okq (⟨"FableIndexModel", "isPlace", "(II)Z"⟩, 14) := ⟨⟨by decide +kernel, by decide +kernel⟩, List.mem_of_getElem? (i := 607) (by decide +kernel), List.mem_of_getElem? (i := 726) (by decide +kernel), List.mem_of_getElem? (i := 727) (by decide +kernel)⟩
theorem lw_p17 : lw_okq (⟨"FableIndexModel", "banned", "(II)Z"⟩, 14) := ⟨⟨by decide +kernel, by decide +kernel⟩, List.mem_of_getElem? (i := 607) (by decide +kernel), List.mem_of_getElem? (i := 730) (by decide +kernel), List.mem_of_getElem? (i := 731) (by decide +kernel)⟩
theorem lw_p18 : lw_okq (⟨"FableIndexModel", "placesOf", "(I)I"⟩, 14) := ⟨⟨by decide +kernel, by decide +kernel⟩, List.mem_of_getElem? (i := 607) (by decide +kernel), List.mem_of_getElem? (i := 734) (by decide +kernel), List.mem_of_getElem? (i := 735) (by decide +kernel)⟩
theorem lw_p19 : lw_okq (⟨"FableIndexModel", "seasonOn", "()I"⟩, 14) := ⟨⟨by decide +kernel, by decide +kernel⟩, List.mem_of_getElem? (i := 607) (by decide +kernel), List.mem_of_getElem? (i := 746) (by decide +kernel), List.mem_of_getElem? (i := 747) (by decide +kernel)⟩
theorem lw_p20 : lw_okq (⟨"FableIndexModel", "comes", "(II)I"⟩, 14) := ⟨⟨by decide +kernel, by decide +kernel⟩, List.mem_of_getElem? (i := 607) (by decide +kernel), List.mem_of_getElem? (i := 750) (by decide +kernel), List.mem_of_getElem? (i := 751) (by decide +kernel)⟩
theorem lw_p21 : lw_okq (⟨"FableIndexModel", "all", "()I"⟩, 14) := ⟨⟨by decide +kernel, by decide +kernel⟩, List.mem_of_getElem? (i := 607) (by decide +kernel), List.mem_of_getElem? (i := 757) (by decide +kernel), List.mem_of_getElem? (i := 758) (by decide +kernel)⟩
theorem lw_p22 : lw_okq (⟨"FableIndexModel", "nearest", "(II)I"⟩, 14) := ⟨⟨by decide +kernel, by decide +kernel⟩, List.mem_of_getElem? (i := 607) (by decide +kernel), List.mem_of_getElem? (i := 793) (by decide +kernel), List.mem_of_getElem? (i := 794) (by decide +kernel)⟩
theorem lw_p23 : lw_okq (⟨"FableIndexModel", "ancestors", "(I)I"⟩, 14) := ⟨⟨by decide +kernel, by decide +kernel⟩, List.mem_of_getElem? (i := 607) (by decide +kernel), List.mem_of_getElem? (i := 797) (by decide +kernel), List.mem_of_getElem? (i := 798) (by decide +kernel)⟩
theorem lw_p24 : lw_okq (⟨"FableIndexModel", "allowed", "(I)I"⟩, 14) := ⟨⟨by decide +kernel, by decide +kernel⟩, List.mem_of_getElem? (i := 607) (by decide +kernel), List.mem_of_getElem? (i := 829) (by decide +kernel), List.mem_of_getElem? (i := 830) (by decide +kernel)⟩
theorem lw_p25 : lw_okq (⟨"FableIndexModel", "bansIn", "(I)I"⟩, 14) := ⟨⟨by decide +kernel, by decide +kernel⟩, List.mem_of_getElem? (i := 607) (by decide +kernel), List.mem_of_getElem? (i := 837) (by decide +kernel), List.mem_of_getElem? (i := 838) (by decide +kernel)⟩
theorem lw_p26 : lw_okq (⟨"FableIndexModel", "favourite", "(Z)I"⟩, 14) := ⟨⟨by decide +kernel, by decide +kernel⟩, List.mem_of_getElem? (i := 607) (by decide +kernel), List.mem_of_getElem? (i := 869) (by decide +kernel), List.mem_of_getElem? (i := 870) (by decide +kernel)⟩
theorem lw_p27 : lw_okq (⟨"FableIndexModel", "keep", "()V"⟩, 14) := ⟨⟨by decide +kernel, by decide +kernel⟩, List.mem_of_getElem? (i := 607) (by decide +kernel), List.mem_of_getElem? (i := 881) (by decide +kernel), List.mem_of_getElem? (i := 882) (by decide +kernel)⟩
theorem lw_p28 : lw_okq (⟨"FableIndexModel", "bringBack", "()V"⟩, 14) := ⟨⟨by decide +kernel, by decide +kernel⟩, List.mem_of_getElem? (i := 607) (by decide +kernel), List.mem_of_getElem? (i := 885) (by decide +kernel), List.mem_of_getElem? (i := 886) (by decide +kernel)⟩
theorem lw_p29 : lw_okq (⟨"FableIndexModel", "after", "(I)I"⟩, 14) := ⟨⟨by decide +kernel, by decide +kernel⟩, List.mem_of_getElem? (i := 607) (by decide +kernel), List.mem_of_getElem? (i := 893) (by decide +kernel), List.mem_of_getElem? (i := 894) (by decide +kernel)⟩
def lw_privs_2 : List (MethodName × Nat) := [(⟨"FableIndexModel", "isPlace", "(II)Z"⟩, 14), (⟨"FableIndexModel", "banned", "(II)Z"⟩, 14), (⟨"FableIndexModel", "placesOf", "(I)I"⟩, 14), (⟨"FableIndexModel", "seasonOn", "()I"⟩, 14), (⟨"FableIndexModel", "comes", "(II)I"⟩, 14), (⟨"FableIndexModel", "all", "()I"⟩, 14), (⟨"FableIndexModel", "nearest", "(II)I"⟩, 14), (⟨"FableIndexModel", "ancestors", "(I)I"⟩, 14), (⟨"FableIndexModel", "allowed", "(I)I"⟩, 14), (⟨"FableIndexModel", "bansIn", "(I)I"⟩, 14), (⟨"FableIndexModel", "favourite", "(Z)I"⟩, 14), (⟨"FableIndexModel", "keep", "()V"⟩, 14), (⟨"FableIndexModel", "bringBack", "()V"⟩, 14), (⟨"FableIndexModel", "after", "(I)I"⟩, 14)]
theorem lw_r2 : ∀ q ∈ lw_privs_2, lw_okq q := List.forall_mem_cons.mpr ⟨lw_p16, List.forall_mem_cons.mpr ⟨lw_p17, List.forall_mem_cons.mpr ⟨lw_p18, List.forall_mem_cons.mpr ⟨lw_p19, List.forall_mem_cons.mpr ⟨lw_p20, List.forall_mem_cons.mpr ⟨lw_p21, List.forall_mem_cons.mpr ⟨lw_p22, List.forall_mem_cons.mpr ⟨lw_p23, List.forall_mem_cons.mpr ⟨lw_p24, List.forall_mem_cons.mpr ⟨lw_p25, List.forall_mem_cons.mpr ⟨lw_p26, List.forall_mem_cons.mpr ⟨lw_p27, List.forall_mem_cons.mpr ⟨lw_p28, List.forall_mem_cons.mpr ⟨lw_p29, fun _ h => absurd h List.not_mem_nil⟩⟩⟩⟩⟩⟩⟩⟩⟩⟩⟩⟩⟩⟩
def lw_privs : List (MethodName × Nat) := lw_privs_1 ++ (lw_privs_2)
def lw_tbl : List Cond := k2_sels lw_privs ++ tables_1
theorem lw_privs_ok : ∀ q ∈ lw_privs, lw_okq q := by
  show ∀ q ∈ lw_privs_1 ++ (lw_privs_2), lw_okq q
  exact List.forall_mem_append.mpr ⟨lw_r1, lw_r2⟩
/-- the streams that the claim lets the run draw from -/
abbrev lw_cs : List Choice := [Jvm.Choice.named "NaN.bits"]
theorem lw_bits : nanBits ∈ lw_cs := by first | decide | exact List.mem_cons_self | simp [lw_cs, nanBits]
-- ===== end of PART A; then your names; then what follows =====
end
section
/-! ===== BEGIN words of one list among another's, by their places ===== -/
theorem goodIn_r {big : List Cond} (ws : List Cond) (ps : List Nat) (hp : ws = ps.filterMap (fun i => big[i]?)) (h : ws.all goodWord = true) : GoodIn big ws := by
  intro w hw
  have h1 := List.all_eq_true.mp h w hw
  rw [hp] at hw
  obtain ⟨i, -, hi⟩ := List.mem_filterMap.mp hw
  have hm : w ∈ big := by first | exact List.mem_of_getElem? hi | exact List.getElem?_mem hi
  exact ⟨hm, good_of_word h1⟩
theorem goodIn_app {big a b : List Cond} (ha : GoodIn big a) (hb : GoodIn big b) : GoodIn big (a ++ b) := fun w h => (List.mem_append.mp h).elim (ha w) (hb w)
theorem goodIn_ca {big a b : List Cond} {c : Cond} (ha : GoodIn big (c :: a)) (hb : GoodIn big b) : GoodIn big (c :: (a ++ b)) := fun w h => (List.mem_cons.mp h).elim (fun e => ha w (List.mem_cons.mpr (Or.inl e))) (fun h => (List.mem_append.mp h).elim (fun h => ha w (List.mem_cons.mpr (Or.inr h))) (hb w))
theorem goodIn_sub {big ws : List Cond} (hm : ∀ w ∈ ws, w ∈ big) (h : ws.all goodWord = true) : GoodIn big ws := fun w hw => ⟨hm w hw, good_of_word (List.all_eq_true.mp h w hw)⟩
/-! ===== END ===== -/

/-! ===== BEGIN exceptions that leave a method, and their catching by the caller (launches without stack traces) ===== -/
section VXA
/-! The laws vx_back, vx_callV, vx_callS, vx_callSW, vx_throw0, vx_throwS follow proofs of the library, with one case more: JvmDerived/Free/Laws.lean (Back.of_free), Shelf42/LK1.lean (callV, callS), Shelf/KitTraced.lean (throwNew0V, throwNewS). -/
/-- where a method has thrown q: the class by its name, the cell, what was written, the world -/
def vx_T (XC : String → State → State → Prop) (st : State) (q : Addr) (t : State) (mc ms : Nat) (free : Addr → Prop) : Prop :=
  ∃ (E : String) (ce : Cell) (L : List Loc), XC E st t ∧ t.heap[q]? = some ce ∧ ce.vm = .none ∧ st.vm.findClass E = some ce.cls ∧ st.WarmedH t.vm ∧ st.sameButNew ({ t with vm := st.vm } : State) L mc ms ∧ ∀ z ∈ L, free z.base
def vx_Q (Qc : Array Value → State → Outcome → State → Prop) (XC : String → State → State → Prop) (mc ms : Nat) (free : Addr → Prop) : Array Value → State → Outcome → State → Prop := fun a st o t =>
  (Qc a st o t ∧ ∃ L, FrameEnd st o t L mc ms ∧ ∀ q ∈ L, free q.base) ∨ ∃ q, o = .threw q ∧ vx_T XC st q t mc ms free
/-- a callee that returns or throws -/
def vx_Met (l : Launch) (y : MethodName) (ws : List Cond) (rm : Room) (Pc : Array Value → State → Prop) (Qc : Array Value → State → Outcome → State → Prop) (XC : String → State → State → Prop) (mc ms : Nat) (free : Addr → Prop) : Prop :=
  MetFree l y (headSpec ws rm) Pc (fun _ _ _ _ _ => True) (vx_Q Qc XC mc ms free)
def vx_Post (XC : String → State → State → Prop) (mc ms : Nat) (free : Addr → Prop) : Pt → Array Value → Addr → Pt → Prop := fun A a q B =>
  ∃ (g : JFrame) (mk : MethodId) (t : State) (L : List Loc) (E : String) (ce : Cell), B.U.heap = t.heap ∧ B.U.vm = t.vm ∧ XC E (A.U.calling g mk a) t ∧ t.heap[q]? = some ce ∧ ce.vm = .none ∧ A.U.vm.findClass E = some ce.cls ∧ B.locs = A.locs ++ L ∧ (∀ z ∈ L, free z.base) ∧ B.cells = A.cells + mc ∧ B.slots = A.slots + ms
def vx_Back (l : Launch) (R : Room) (p : Program) (e : Env) (below : List Frame) (s : State) (sargs : Array Value) (y : MethodName) (len W9 : Nat)
    (Pre : Pt → Array Value → Prop) (Post : Pt → Array Value → Option Value → Pt → Prop) (PostX : Pt → Array Value → Addr → Pt → Prop) : Prop :=
  ∀ (m : MethodId) (meth : Method) (c : Code) (A : Pt) (g : JFrame) (ig : Instr) (mk : MethodId) (a : Array Value),
    Stand p l e R s m sargs below meth c A.U A.locs A.cells A.slots → g.method = m → g.locals.size = c.maxLocals → decode c.code g.pc = .ok (ig, len) →
    2 * g.monitorRoom + (g.stack.map fun v => v.category).sum ≤ W9 → A.U.methodNamed? y = some mk → Pre A a →
    (∃ (v : Option Value) (B : Pt), Stand p l e R s m sargs below meth c B.U B.locs B.cells B.slots ∧ Post A a v B ∧
      Steps p.tables e below (doInvoke e (A.U.setTop g) [] mk a).1 (B.U.setTop { g with pc := g.pc + len, stack := v.toList ++ g.stack })) ∨
    (∃ (q : Addr) (B : Pt), Stand p l e R s m sargs below meth c B.U B.locs B.cells B.slots ∧ PostX A a q B ∧
      Steps p.tables e below (doInvoke e (A.U.setTop g) [] mk a).1 ((B.U.setTop g).pushFrame (.throwing q)))
section Payer
variable {l : Launch} {R : Room} {p : Program} {e : Env} {below : List Frame} {s : State} {sargs : Array Value} {y : MethodName} {len W9 : Nat}
theorem vx_back {ws : List Cond} {rm : Room} {Pc : Array Value → State → Prop} {Qc : Array Value → State → Outcome → State → Prop} {XC : String → State → State → Prop} {mc ms : Nat} {free : Addr → Prop} {bytes : ByteArray} {maxL : Nat} {ret : Option FieldType}
    (hM : vx_Met l y ws rm Pc Qc XC mc ms free) (hblind : FrameBlind Pc) (hrc : rm.cells = mc) (hrs : rm.slots = ms)
    (hframes : rm.frames + 1 ≤ R.frames) (hlocals : W9 + (maxL + 11) + rm.locals ≤ R.locals)
    (hws : ∀ w ∈ ws, ∀ a' U, s.WarmedH U.vm → w.before a' U = true) (hcode : Cond.code y bytes maxL ret ∈ ws) (hinit : ∀ a' U, s.WarmedH U.vm → (Cond.initialized y.cls).before a' U = true) :
    vx_Back l R p e below s sargs y len W9 (PreOf R mc ms Pc) (PostOf Qc mc ms free) (vx_Post XC mc ms free) := by
  intro m meth c A g ig mk a X hg hsize hdg hW hn hp
  have h1 : (headSpec ws rm).pre.before a A.U = true := atoms_intro fun w hw => hws w hw _ _ X.warmed
  have h2 : (Cond.code y bytes maxL ret).before a A.U = true := hws _ hcode _ _ X.warmed
  have h3 : (Cond.initialized y.cls).before a A.U = true := hinit _ _ X.warmed
  have h4 : A.cells + (headSpec ws rm).room.cells ≤ R.cells := by rw [show (headSpec ws rm).room.cells = mc from hrc]; exact hp.1
  have h5 : A.slots + (headSpec ws rm).room.slots ≤ R.slots := by rw [show (headSpec ws rm).room.slots = ms from hrs]; exact hp.2.1
  have hPc : Pc a (A.U.calling g mk a) := hblind _ _ _ _ hp.2.2
  obtain ⟨U, Ls, c0, s0⟩ := A
  dsimp only [Pt.U, Pt.locs, Pt.cells, Pt.slots] at h1 h2 h3 h4 h5 X hn hPc ⊢
  obtain ⟨methY, cY, hmY, hcY, -, hlY, -, -, -, -⟩ := Cond.code_spec hn h2
  obtain ⟨kY, hkY, -⟩ := className_of_methodNamed hn
  have hinitY : kY.init = .initialized := Cond.initialized_spec (findClass_of_methodNamed hn) hkY h3
  have h : At U g.method c below := by rw [hg]; exact X.here
  have hlocals9 : W9 + (maxL + 11) + (headSpec ws rm).room.locals ≤ R.locals := hlocals
  have happ : (headSpec ws rm).appliesLoose y e.platform (U.calling g mk a) = true :=
    Spec.appliesLoose_calling (g := g) h hdg hn hkY hinitY
      (X.room_calling (g := g) (R' := (headSpec ws rm).room) hsize hmY hcY hframes (by rw [hlY]; omega) h4 h5) h1
  obtain ⟨mid, hmid⟩ := h.above
  have hfr : (U.setTop g).frames = (.java g :: mid) ++ below := by rw [State.frames_setTop' g h.top, hmid]; rfl
  obtain ⟨o, s₂, hsteps, -, hend, hq⟩ := Steps.callFree hM p X.admits X.cas X.clock (acts := []) hfr happ hPc trivial
  have hq' : vx_Q Qc XC mc ms free a (U.calling g mk a) o s₂ := hq
  rw [State.frames_setTop' g h.top] at hend
  obtain ⟨g₀, hg0⟩ := Option.isSome_iff_exists.mp h.top
  obtain ⟨r, hr⟩ := State.topJava?_eq_some.mp hg0
  have hr' : (({ U with heap := s₂.heap, slotsUsed := s₂.slotsUsed } : State).setVm s₂.vm).frames = .java g₀ :: r := hr
  rcases hq' with ⟨hqc, L, hfe, hL⟩ | ⟨q, rfl, E, ce, L, hx, hce, hcv, hcl, hW₂, hsm, hL⟩
  · obtain ⟨⟨v, rfl⟩, hW₂, e2, q2, q3, q4, q5, q6⟩ := id hfe
    have e3 : s₂ = ({ (U.calling g mk a).setFrames s₂.frames with heap := s₂.heap, slotsUsed := s₂.slotsUsed } : State).setVm s₂.vm := by
      have : s₂ = ({ s₂ with vm := (U.calling g mk a).vm } : State).setVm s₂.vm := rfl
      rw [e2] at this
      exact this
    obtain ⟨c₂, i₂, len₂, hc₂, hd₂, hf₂⟩ := hend
    have hW' : U.WarmedH s₂.vm := hW₂
    have hcc : c₂ = c := by
      have h1 : s₂.code? g.method = U.code? g.method := by
        rw [State.code?_eq, State.code?_eq, hW'.alike.method?]
      exact Option.some.inj (hc₂.symm.trans (h1.trans h.code))
    subst hcc
    have hlen : len₂ = len := by rw [hdg] at hd₂; cases hd₂; rfl
    subst hlen
    have hs₂ : s₂ = (({ U with heap := s₂.heap, slotsUsed := s₂.slotsUsed } : State).setVm s₂.vm).setTop { g with pc := g.pc + len₂, stack := v.toList ++ g.stack } := by
      refine e3.trans ?_
      rw [hf₂, State.calling_eq h.top, State.setFrames_setFrames, State.setTop_of_frames _ hr', hr]
      rfl
    have hsame : U.sameButNew ({ U with heap := s₂.heap, slotsUsed := s₂.slotsUsed } : State) L mc ms := by
      refine ⟨?_, q2, q3, q4, q5, q6⟩
      obtain ⟨t, ht, -⟩ := State.frames_cons hr
      show ({ U with heap := s₂.heap, slotsUsed := s₂.slotsUsed } : State) = { U.setFrames U.frames with heap := s₂.heap, slotsUsed := s₂.slotsUsed }
      rw [State.setFrames_self ht]
    subst hg
    refine Or.inl ⟨v, ⟨(({ U with heap := s₂.heap, slotsUsed := s₂.slotsUsed } : State).setVm s₂.vm), Ls ++ L, c0 + mc, s0 + ms⟩,
      ⟨X.admits, X.cas, X.clock, X.frames, X.room, X.hears, X.method, X.code, (X.here.setHeapUsed s₂.heap s₂.slotsUsed).setVm hW'.alike, X.tail, State.WarmedH.trans X.warmed hW', X.limits, X.bytes, X.same.trans (hsame.setVm s.vm)⟩,
      ⟨g, mk, s₂, L, rfl, rfl, hqc, rfl, hL, rfl, rfl⟩, ?_⟩
    show Steps p.tables e below _ ((({ U with heap := s₂.heap, slotsUsed := s₂.slotsUsed } : State).setVm s₂.vm).setTop { g with pc := g.pc + len₂, stack := v.toList ++ g.stack })
    rw [← hs₂]
    exact hsteps
  · obtain ⟨e2, q2, q3, q4, q5, q6⟩ := id hsm
    have e3 : s₂ = ({ (U.calling g mk a).setFrames s₂.frames with heap := s₂.heap, slotsUsed := s₂.slotsUsed } : State).setVm s₂.vm := by
      have : s₂ = ({ s₂ with vm := (U.calling g mk a).vm } : State).setVm s₂.vm := rfl
      rw [e2] at this
      exact this
    have hf₂ : s₂.frames = .throwing q :: .java g :: U.frames.tail := hend
    have hW' : U.WarmedH s₂.vm := hW₂
    have hs₂ : s₂ = ((({ U with heap := s₂.heap, slotsUsed := s₂.slotsUsed } : State).setVm s₂.vm).setTop g).pushFrame (.throwing q) := by
      refine e3.trans ?_
      rw [hf₂, State.calling_eq h.top, State.setFrames_setFrames, State.pushFrame, State.frames_setTop _ hr', State.setTop_of_frames _ hr', State.setFrames_setFrames, hr]
      rfl
    have hsame : U.sameButNew ({ U with heap := s₂.heap, slotsUsed := s₂.slotsUsed } : State) L mc ms := by
      refine ⟨?_, q2, q3, q4, q5, q6⟩
      obtain ⟨t, ht, -⟩ := State.frames_cons hr
      show ({ U with heap := s₂.heap, slotsUsed := s₂.slotsUsed } : State) = { U.setFrames U.frames with heap := s₂.heap, slotsUsed := s₂.slotsUsed }
      rw [State.setFrames_self ht]
    subst hg
    refine Or.inr ⟨q, ⟨(({ U with heap := s₂.heap, slotsUsed := s₂.slotsUsed } : State).setVm s₂.vm), Ls ++ L, c0 + mc, s0 + ms⟩,
      ⟨X.admits, X.cas, X.clock, X.frames, X.room, X.hears, X.method, X.code, (X.here.setHeapUsed s₂.heap s₂.slotsUsed).setVm hW'.alike, X.tail, State.WarmedH.trans X.warmed hW', X.limits, X.bytes, X.same.trans (hsame.setVm s.vm)⟩,
      ⟨g, mk, s₂, L, E, ce, rfl, rfl, hx, hce, hcv, hcl, rfl, hL, rfl, rfl⟩, ?_⟩
    show Steps p.tables e below _ (((({ U with heap := s₂.heap, slotsUsed := s₂.slotsUsed } : State).setVm s₂.vm).setTop g).pushFrame (.throwing q))
    rw [← hs₂]
    exact hsteps
end Payer
section Calls
variable {p : Program} {l : Launch} {e : Env} {R : Room} {s : State} {m : MethodId} {args : Array Value} {below : List Frame} {meth : Method} {c : Code} {T : State} {locs : List Loc} {cells slots : Nat}
theorem vx_callV (X : Stand p l e R s m args below meth c T locs cells slots) (hexec : p.tables.exec = Jvm.exec) {own C : String} {index : Nat} {y : MethodName} {bytes : ByteArray} {maxL : Nat} {ret : Option FieldType}
    (hown : s.vm.findClass own = some m.cls) (hlink : (Cond.methodLink own index y).before args s = true) (hinst : (Cond.instanceMethod y).before args s = true) (hsel : (Cond.selects C y y).before args s = true)
    (hcode : (Cond.code y bytes maxL ret).before args s = true) (hy : y.cls ≠ "java/lang/invoke/MethodHandle" ∧ y.cls ≠ "java/lang/invoke/VarHandle")
    {W9 : Nat} {Pre : Pt → Array Value → Prop} {Post : Pt → Array Value → Option Value → Pt → Prop} {PostX : Pt → Array Value → Addr → Pt → Prop} (hK : vx_Back l R p e below s args y 3 W9 Pre Post PostX)
    {b : Addr} {cellB : Cell} (hcell : T.heap[b]? = some cellB) (hobj : cellB.vm.isStatics = false) (hcls : s.vm.findClass C = some cellB.cls)
    {g : JFrame} (hg : g.method = m) (hsize : g.locals.size = c.maxLocals) {argsL rest : List Value} (hlen : ∀ sig, parseMethodDescriptor y.desc = some sig → argsL.length = sig.parameters.length)
    (hstack : g.stack = argsL.reverse ++ .ref b :: rest) (hW : 2 * g.monitorRoom + (rest.map fun v => v.category).sum ≤ W9) (hdg : decode c.code g.pc = .ok (.invokevirtual index, 3))
    (hpre : ∀ vm₁, s.WarmedH vm₁ → Pre ⟨T.setVm vm₁, locs, cells, slots⟩ (Value.ref b :: argsL).toArray) :
    (∃ (v : Option Value) (vm₁ : Vm) (B : Pt), s.WarmedH vm₁ ∧ Stand p l e R s m args below meth c B.U B.locs B.cells B.slots ∧ Post ⟨T.setVm vm₁, locs, cells, slots⟩ (Value.ref b :: argsL).toArray v B ∧
      ∀ target, Steps p.tables e below (B.U.setTop { g with pc := g.pc + 3, stack := v.toList ++ rest }) target → Steps p.tables e below (T.setTop g) target) ∨
    (∃ (q : Addr) (vm₁ : Vm) (B : Pt), s.WarmedH vm₁ ∧ Stand p l e R s m args below meth c B.U B.locs B.cells B.slots ∧ PostX ⟨T.setVm vm₁, locs, cells, slots⟩ (Value.ref b :: argsL).toArray q B ∧
      Steps p.tables e below (T.setTop g) ((B.U.setTop { g with stack := rest }).pushFrame (.throwing q))) := by
  obtain ⟨mk, methM, hnamed, hmethM, hstM, habM⟩ := Cond.instanceMethod_spec hinst
  obtain ⟨methM', cM, hmethM', -, -, -, -, -, -, hsigM⟩ := Cond.code_spec hnamed hcode
  cases hmethM.symm.trans hmethM'
  obtain ⟨c2, r2, m2, q1, q2, q3, q4, kP, hkP, hkPi⟩ := Cond.selects_spec hsel
  cases hcls.symm.trans q1
  cases (State.methodFound?_of_named hnamed hy).symm.trans q2
  cases hnamed.symm.trans q3
  have hselP : selectMethod e.platform s.vm cellB.cls mk = .method mk := by rw [Launch.admits_selectMethod X.admits]; exact q4
  obtain ⟨vm₁, X₁, hstep₁⟩ := X.invokevirtual hexec hown hlink hnamed hmethM hstM hkP hkPi hy (a := b) (cell := cellB) hcell
    (fun z h => by rw [h] at hobj; cases hobj) hselP hmethM habM hkP hkPi (g := g) hg (argsL := argsL) (rest := rest) (hlen _ hsigM) hstack hdg
  rcases hK m meth c ⟨T.setVm vm₁, locs, cells, slots⟩ { g with stack := rest } (.invokevirtual index) mk (Value.ref b :: argsL).toArray X₁ hg hsize hdg hW (X₁.named hnamed) (hpre vm₁ X₁.warmed) with ⟨v, B, X', hpost, hsteps⟩ | ⟨q, B, X', hpost, hsteps⟩
  · exact Or.inl ⟨v, vm₁, B, X₁.warmed, X', hpost, fun target h => hstep₁ _ fun acts => by rw [doInvoke_state]; exact hsteps.trans h⟩
  · exact Or.inr ⟨q, vm₁, B, X₁.warmed, X', hpost, hstep₁ _ fun acts => by rw [doInvoke_state]; exact hsteps⟩
theorem vx_callS (X : Stand p l e R s m args below meth c T locs cells slots) (hexec : p.tables.exec = Jvm.exec) {own : String} {index : Nat} {y : MethodName} {bytes : ByteArray} {maxL : Nat} {ret : Option FieldType}
    (hown : s.vm.findClass own = some m.cls) (hlink : (Cond.methodLink own index y).before args s = true) (hstat : (Cond.static y).before args s = true) (hinit : (Cond.initialized y.cls).before args s = true)
    (hcode : (Cond.code y bytes maxL ret).before args s = true) (hy : y.cls ≠ "java/lang/invoke/MethodHandle" ∧ y.cls ≠ "java/lang/invoke/VarHandle")
    {W9 : Nat} {Pre : Pt → Array Value → Prop} {Post : Pt → Array Value → Option Value → Pt → Prop} {PostX : Pt → Array Value → Addr → Pt → Prop} (hK : vx_Back l R p e below s args y 3 W9 Pre Post PostX)
    {g : JFrame} (hg : g.method = m) (hsize : g.locals.size = c.maxLocals) {argsL rest : List Value} (hlen : ∀ sig, parseMethodDescriptor y.desc = some sig → argsL.length = sig.parameters.length)
    (hstack : g.stack = argsL.reverse ++ rest) (hW : 2 * g.monitorRoom + (rest.map fun v => v.category).sum ≤ W9) (hdg : decode c.code g.pc = .ok (.invokestatic index, 3))
    (hpre : ∀ vm₁, s.WarmedH vm₁ → Pre ⟨T.setVm vm₁, locs, cells, slots⟩ argsL.toArray) :
    (∃ (v : Option Value) (vm₁ : Vm) (B : Pt), s.WarmedH vm₁ ∧ Stand p l e R s m args below meth c B.U B.locs B.cells B.slots ∧ Post ⟨T.setVm vm₁, locs, cells, slots⟩ argsL.toArray v B ∧
      ∀ target, Steps p.tables e below (B.U.setTop { g with pc := g.pc + 3, stack := v.toList ++ rest }) target → Steps p.tables e below (T.setTop g) target) ∨
    (∃ (q : Addr) (vm₁ : Vm) (B : Pt), s.WarmedH vm₁ ∧ Stand p l e R s m args below meth c B.U B.locs B.cells B.slots ∧ PostX ⟨T.setVm vm₁, locs, cells, slots⟩ argsL.toArray q B ∧
      Steps p.tables e below (T.setTop g) ((B.U.setTop { g with stack := rest }).pushFrame (.throwing q))) := by
  obtain ⟨mk, hnamed⟩ := Cond.code_named hcode
  obtain ⟨methM, cM, hmethM, -, -, -, -, -, -, hsigM⟩ := Cond.code_spec hnamed hcode
  have hstatic : methM.isStatic = true := Cond.static_spec hnamed hmethM hstat
  obtain ⟨kP, hkP, -⟩ := className_of_methodNamed hnamed
  have hinitP : kP.init = .initialized := Cond.initialized_spec (findClass_of_methodNamed hnamed) hkP hinit
  obtain ⟨vm₁, X₁, hstep₁⟩ := X.invokestatic hexec hown hlink hnamed hmethM hstatic hkP hinitP hy (g := g) hg (argsL := argsL) (rest := rest) (hlen _ hsigM) hstack hdg
  rcases hK m meth c ⟨T.setVm vm₁, locs, cells, slots⟩ { g with stack := rest } (.invokestatic index) mk argsL.toArray X₁ hg hsize hdg hW (X₁.named hnamed) (hpre vm₁ X₁.warmed) with ⟨v, B, X', hpost, hsteps⟩ | ⟨q, B, X', hpost, hsteps⟩
  · exact Or.inl ⟨v, vm₁, B, X₁.warmed, X', hpost, fun target h => hstep₁ _ fun acts => by rw [doInvoke_state]; exact hsteps.trans h⟩
  · exact Or.inr ⟨q, vm₁, B, X₁.warmed, X', hpost, hstep₁ _ fun acts => by rw [doInvoke_state]; exact hsteps⟩
end Calls
theorem vx_cls {s : State} {T : State} {vm₁ : Vm} {E : String} {k : ClassId} (hW : s.WarmedH vm₁) (h : (T.setVm vm₁).vm.findClass E = some k) : s.vm.findClass E = some k := by
  have h1 : vm₁.findClass E = some k := h
  rw [hW.alike.findClass] at h1
  exact h1
/-- the method's frame g, with q thrown over it -/
def vx_W (p : Program) (l : Launch) (e : Env) (R : Room) (s : State) (m : MethodId) (args : Array Value) (below : List Frame) (meth : Method) (c : Code) (H : Heap) (locs : List Loc) (cells slots : Nat) (Q : State → Prop) (g : JFrame) (q : Addr) : Prop :=
  ∀ T : State, T.heap = H → Stand p l e R s m args below meth c T locs cells slots → ∃ t, Steps p.tables e below ((T.setTop g).pushFrame (.throwing q)) t ∧ Q t
def vx_Run (p : Program) (l : Launch) (e : Env) (R : Room) (s : State) (m : MethodId) (args : Array Value) (below : List Frame) (meth : Method) (c : Code) (H : Heap) (locs : List Loc) (cells slots mc ms : Nat) (g : JFrame) (rest : List Value) (Qa : State → Outcome → State → Prop) (XC : String → State → State → Prop) (free : Addr → Prop) : Prop :=
  ∀ T : State, T.heap = H → Stand p l e R s m args below meth c T locs cells slots →
    (∃ (v : Option Value) (st₀ t T' : State) (L : List Loc), st₀.heap = H ∧ Stand p l e R s m args below meth c T' (locs ++ L) (cells + mc) (slots + ms) ∧ (∀ q ∈ L, free q.base) ∧ T'.heap = t.heap ∧ T'.vm = t.vm ∧ Qa st₀ (.returned v) t ∧
      Goes p e below T g T' { g with pc := g.pc + 3, stack := v.toList ++ rest }) ∨
    (∃ (q : Addr) (st₀ t T' : State) (L : List Loc) (E : String) (ce : Cell), st₀.heap = H ∧ Stand p l e R s m args below meth c T' (locs ++ L) (cells + mc) (slots + ms) ∧ (∀ z ∈ L, free z.base) ∧ T'.heap = t.heap ∧ T'.vm = t.vm ∧ XC E st₀ t ∧ t.heap[q]? = some ce ∧ ce.vm = .none ∧ s.vm.findClass E = some ce.cls ∧
      Steps p.tables e below (T.setTop g) ((T'.setTop { g with stack := rest }).pushFrame (.throwing q)))
def vx_X {S : Type} (px : S → Prop) (B : String → S → State → Prop) (A : Nat → Prop) : String → State → State → Prop := fun E st t => ∃ u : S, px u ∧ B E u t ∧ va_F A st t
section Runs
variable {p : Program} {l : Launch} {e : Env} {R : Room} {s : State} {m : MethodId} {args : Array Value} {below : List Frame} {meth : Method} {c : Code} {H : Heap} {locs : List Loc} {cells slots : Nat}
variable {y : MethodName} {bytes cc : ByteArray} {maxL nL mc ms n index : Nat} {ret : Option FieldType} {ws : List Cond} {rm : Room} {Pc : Array Value → State → Prop} {Qc : Array Value → State → Outcome → State → Prop} {XC : String → State → State → Prop} {free : Addr → Prop} {Ts : List Cond} {own C : String} {b : Addr} {As rest : List Value} {g : JFrame}
theorem vx_callBack (cb : CallB R s args own index y bytes maxL ret ws rm mc ms n) (hM : vx_Met l y ws rm Pc Qc XC mc ms free) (hbl : FrameBlind Pc) : vx_Back l R p e below s args y 3 8 (PreOf R mc ms Pc) (PostOf Qc mc ms free) (vx_Post XC mc ms free) := by
  obtain ⟨hrc, hrs, hfr, hlo, hws, hcw, -, hini, -⟩ := cb
  exact vx_back (bytes := bytes) (maxL := maxL) (ret := ret) hM hbl hrc hrs hfr hlo hws hcw (fun a' U hW => word_at hW (Or.inl (by first | rfl | simp [Cond.onTables, Cond.keeps, Cond.steady])) hini)
theorem vx_runV (S : CallFix p m c cc nL s args Ts own) (hM : vx_Met l y ws rm Pc Qc XC mc ms free) (cw : CallW R s args own C index y bytes maxL ret ws rm mc ms n) (hp : PreV s H C b Pc As)
    (hg : g.method = m) (hn : As.length = n) (hsize : g.locals.size = nL) (hstack : g.stack = As.reverse ++ .ref b :: rest) (hW : 2 * g.monitorRoom + (rest.map fun v => v.category).sum ≤ 8) (hdg : decode cc g.pc = .ok (.invokevirtual index, 3)) (hf : cells + mc ≤ R.cells ∧ slots + ms ≤ R.slots) :
    vx_Run p l e R s m args below meth c H locs cells slots mc ms g rest (Qc (Value.ref b :: As).toArray) XC free := by
  have hK : vx_Back l R p e below s args y 3 8 (PreOf R mc ms Pc) (PostOf Qc mc ms free) (vx_Post XC mc ms free) := vx_callBack cw.1 hM hp.1
  obtain ⟨⟨-, -, -, -, -, -, hcode, -, hy, hlen, hl⟩, hin, hse⟩ := cw
  obtain ⟨hx, hb, hml, ho, -⟩ := S
  obtain ⟨-, ⟨cellB, hcB, hoB, hclB⟩, hPc⟩ := hp
  intro T hT X
  rcases vx_callV X hx (C := C) (bytes := bytes) (maxL := maxL) (ret := ret) ho hl hin hse hcode hy hK (by rw [hT]; exact hcB) hoB hclB hg (hsize.trans hml.symm) (argsL := As) (rest := rest) (fun sig h => hn.trans (hlen sig h)) hstack hW (by rw [hb]; exact hdg)
    (fun vm₁ hW₁ => ⟨hf.1, hf.2, hPc (T.setVm vm₁) hT hW₁⟩) with ⟨v, vm₁, ⟨U', l2, c2, s2⟩, hW₁, X', ⟨g', mk, t, L, e1, e2, hq, h1, hL, h2, h3⟩, st⟩ | ⟨q, vm₁, ⟨U', l2, c2, s2⟩, hW₁, X', ⟨g', mk, t, L, E, ce, e1, e2, hq, hce, hcv, hcl, h1, hL, h2, h3⟩, st⟩
  · dsimp only [Pt.U, Pt.locs, Pt.cells, Pt.slots] at X' e1 e2 h1 h2 h3 st
    subst h1; subst h2; subst h3
    exact Or.inl ⟨v, (T.setVm vm₁).calling g' mk (Value.ref b :: As).toArray, t, U', L, hT, X', hL, e1, e2, hq, st⟩
  · dsimp only [Pt.U, Pt.locs, Pt.cells, Pt.slots] at X' e1 e2 h1 h2 h3 st hcl
    subst h1; subst h2; subst h3
    exact Or.inr ⟨q, (T.setVm vm₁).calling g' mk (Value.ref b :: As).toArray, t, U', L, E, ce, hT, X', hL, e1, e2, hq, hce, hcv, vx_cls hW₁ hcl, st⟩
theorem vx_runS (S : CallFix p m c cc nL s args Ts own) (hM : vx_Met l y ws rm Pc Qc XC mc ms free) (cw : CallB R s args own index y bytes maxL ret ws rm mc ms n ∧ (Cond.static y).before args s = true) (hp : PreS s H Pc As)
    (hg : g.method = m) (hn : As.length = n) (hsize : g.locals.size = nL) (hstack : g.stack = As.reverse ++ rest) (hW : 2 * g.monitorRoom + (rest.map fun v => v.category).sum ≤ 8) (hdg : decode cc g.pc = .ok (.invokestatic index, 3)) (hf : cells + mc ≤ R.cells ∧ slots + ms ≤ R.slots) :
    vx_Run p l e R s m args below meth c H locs cells slots mc ms g rest (Qc As.toArray) XC free := by
  have hK : vx_Back l R p e below s args y 3 8 (PreOf R mc ms Pc) (PostOf Qc mc ms free) (vx_Post XC mc ms free) := vx_callBack cw.1 hM hp.1
  obtain ⟨⟨-, -, -, -, -, -, hcode, hini, hy, hlen, hl⟩, hstt⟩ := cw
  obtain ⟨hx, hb, hml, ho, -⟩ := S
  intro T hT X
  rcases vx_callS X hx (bytes := bytes) (maxL := maxL) (ret := ret) ho hl hstt hini hcode hy hK hg (hsize.trans hml.symm) (argsL := As) (rest := rest) (fun sig h => hn.trans (hlen sig h)) hstack hW (by rw [hb]; exact hdg)
    (fun vm₁ hW₁ => ⟨hf.1, hf.2, hp.2 (T.setVm vm₁) hT hW₁⟩) with ⟨v, vm₁, ⟨U', l2, c2, s2⟩, hW₁, X', ⟨g', mk, t, L, e1, e2, hq, h1, hL, h2, h3⟩, st⟩ | ⟨q, vm₁, ⟨U', l2, c2, s2⟩, hW₁, X', ⟨g', mk, t, L, E, ce, e1, e2, hq, hce, hcv, hcl, h1, hL, h2, h3⟩, st⟩
  · dsimp only [Pt.U, Pt.locs, Pt.cells, Pt.slots] at X' e1 e2 h1 h2 h3 st
    subst h1; subst h2; subst h3
    exact Or.inl ⟨v, (T.setVm vm₁).calling g' mk As.toArray, t, U', L, hT, X', hL, e1, e2, hq, st⟩
  · dsimp only [Pt.U, Pt.locs, Pt.cells, Pt.slots] at X' e1 e2 h1 h2 h3 st hcl
    subst h1; subst h2; subst h3
    exact Or.inr ⟨q, (T.setVm vm₁).calling g' mk As.toArray, t, U', L, E, ce, hT, X', hL, e1, e2, hq, hce, hcv, vx_cls hW₁ hcl, st⟩
end Runs
section Rows
variable {p : Program} {l : Launch} {e : Env} {R : Room} {s : State} {m : MethodId} {args : Array Value} {below : List Frame} {meth : Method} {c : Code} {H : Heap} {locs : List Loc} {cells slots : Nat} {Q : State → Prop}
variable {mc ms : Nat} {free : Addr → Prop} {A0 A1 : Nat → Prop} {H0 : Heap} {a : Array Value} {pc : Nat} {ls : Array Slot} {st0 rest : List Value}
theorem vx_keep {st₀ t T' : State} {L : List Loc} (h0 : st₀.heap = H) (e1 : T'.heap = t.heap) (hS : va_S A0 H0 H locs) (hA : ∀ q, q < H.size → A1 q → A0 q) (hf : ∀ q, free q → A0 q) (hL : ∀ q ∈ L, free q.base) (hF : va_F A1 st₀ t) :
    H.size ≤ T'.heap.size ∧ (∀ q : Nat, q < H.size → ¬ A1 q → T'.heap[q]? = H[q]?) ∧ va_S A0 H0 T'.heap (locs ++ L) := by
  obtain ⟨hz, hk⟩ := hF
  rw [h0] at hz hk
  exact ⟨by rw [e1]; exact hz, fun q h1 h2 => by rw [e1]; exact hk q h1 h2,
    ⟨Nat.le_trans hS.1 (by rw [e1]; exact hz), fun q h1 h2 => by rw [e1, hk q (Nat.lt_of_lt_of_le h1 hS.1) (fun z => h2 (hA q (Nat.lt_of_lt_of_le h1 hS.1) z))]; exact hS.2.1 q h1 h2, fun q hq => by
      rcases List.mem_append.mp hq with h | h
      · exact hS.2.2 q h
      · exact hf _ (hL q h)⟩⟩
theorem vx_calli {S SX : Type} {post : Int32 → S → Prop} {px : SX → Prop} {B : S → State → Prop} {BX : String → SX → State → Prop} {AX : Nat → Prop} (hr : vx_Run p l e R s m args below meth c H locs cells slots mc ms (F0 m pc ls st0) rest (va_Qi post B A1 a) (vx_X px BX AX) free) (hS : va_S A0 H0 H locs) (hA : ∀ q, q < H.size → A1 q → A0 q) (hf : ∀ q, free q → A0 q) (hAX : ∀ q, q < H.size → AX q → A0 q)
    (kx : ∀ (E : String) (ce : Cell) (q9 : Addr) (u : SX) (t : State) (H1 : Heap) (locs1 : List Loc), t.heap = H1 → s.vm.Alike t.vm → px u → BX E u t → H.size ≤ H1.size → (∀ q : Nat, q < H.size → ¬ AX q → H1[q]? = H[q]?) → va_S A0 H0 H1 locs1 → H1[q9]? = some ce → ce.vm = .none → s.vm.findClass E = some ce.cls → vx_W p l e R s m args below meth c H1 locs1 (cells + mc) (slots + ms) Q (F0 m pc ls rest) q9)
    (kk : ∀ (r : Int32) (u : S) (t : State) (H1 : Heap) (locs1 : List Loc), t.heap = H1 → s.vm.Alike t.vm → post r u → B u t → H.size ≤ H1.size → (∀ q : Nat, q < H.size → ¬ A1 q → H1[q]? = H[q]?) → va_S A0 H0 H1 locs1 → W p l e R s m args below meth c H1 locs1 (cells + mc) (slots + ms) Q (F0 m (pc + 3) ls (.int r :: rest))) : W p l e R s m args below meth c H locs cells slots Q (F0 m pc ls st0) := by
  intro T hT X
  rcases hr T hT X with ⟨v, st₀, t, T', L, h0, X', hL, e1, e2, ⟨⟨r, u, hv, hp, hb⟩, hF⟩, st⟩ | ⟨q, st₀, t, T', L, E, ce, h0, X', hL, e1, e2, ⟨u, hp, hb, hF⟩, hce, hcv, hcl, st⟩
  · cases hv
    obtain ⟨k1, k2, k3⟩ := vx_keep h0 e1 hS hA hf hL hF
    obtain ⟨t2, a1, b1⟩ := kk r u t T'.heap (locs ++ L) e1.symm (by rw [← e2]; exact X'.warmed.alike) hp hb k1 k2 k3 T' rfl X'
    exact ⟨t2, st t2 a1, b1⟩
  · obtain ⟨k1, k2, k3⟩ := vx_keep h0 e1 hS hAX hf hL hF
    obtain ⟨t2, a1, b1⟩ := kx E ce q u t T'.heap (locs ++ L) e1.symm (by rw [← e2]; exact X'.warmed.alike) hp hb k1 k2 k3 (by rw [e1]; exact hce) hcv hcl T' rfl X'
    exact ⟨t2, st.trans a1, b1⟩
theorem vx_calll {S SX : Type} {post : Int64 → S → Prop} {px : SX → Prop} {B : S → State → Prop} {BX : String → SX → State → Prop} {AX : Nat → Prop} (hr : vx_Run p l e R s m args below meth c H locs cells slots mc ms (F0 m pc ls st0) rest (va_Ql post B A1 a) (vx_X px BX AX) free) (hS : va_S A0 H0 H locs) (hA : ∀ q, q < H.size → A1 q → A0 q) (hf : ∀ q, free q → A0 q) (hAX : ∀ q, q < H.size → AX q → A0 q)
    (kx : ∀ (E : String) (ce : Cell) (q9 : Addr) (u : SX) (t : State) (H1 : Heap) (locs1 : List Loc), t.heap = H1 → s.vm.Alike t.vm → px u → BX E u t → H.size ≤ H1.size → (∀ q : Nat, q < H.size → ¬ AX q → H1[q]? = H[q]?) → va_S A0 H0 H1 locs1 → H1[q9]? = some ce → ce.vm = .none → s.vm.findClass E = some ce.cls → vx_W p l e R s m args below meth c H1 locs1 (cells + mc) (slots + ms) Q (F0 m pc ls rest) q9)
    (kk : ∀ (r : Int64) (u : S) (t : State) (H1 : Heap) (locs1 : List Loc), t.heap = H1 → s.vm.Alike t.vm → post r u → B u t → H.size ≤ H1.size → (∀ q : Nat, q < H.size → ¬ A1 q → H1[q]? = H[q]?) → va_S A0 H0 H1 locs1 → W p l e R s m args below meth c H1 locs1 (cells + mc) (slots + ms) Q (F0 m (pc + 3) ls (.long r :: rest))) : W p l e R s m args below meth c H locs cells slots Q (F0 m pc ls st0) := by
  intro T hT X
  rcases hr T hT X with ⟨v, st₀, t, T', L, h0, X', hL, e1, e2, ⟨⟨r, u, hv, hp, hb⟩, hF⟩, st⟩ | ⟨q, st₀, t, T', L, E, ce, h0, X', hL, e1, e2, ⟨u, hp, hb, hF⟩, hce, hcv, hcl, st⟩
  · cases hv
    obtain ⟨k1, k2, k3⟩ := vx_keep h0 e1 hS hA hf hL hF
    obtain ⟨t2, a1, b1⟩ := kk r u t T'.heap (locs ++ L) e1.symm (by rw [← e2]; exact X'.warmed.alike) hp hb k1 k2 k3 T' rfl X'
    exact ⟨t2, st t2 a1, b1⟩
  · obtain ⟨k1, k2, k3⟩ := vx_keep h0 e1 hS hAX hf hL hF
    obtain ⟨t2, a1, b1⟩ := kx E ce q u t T'.heap (locs ++ L) e1.symm (by rw [← e2]; exact X'.warmed.alike) hp hb k1 k2 k3 (by rw [e1]; exact hce) hcv hcl T' rfl X'
    exact ⟨t2, st.trans a1, b1⟩
theorem vx_callf {S SX : Type} {post : UInt32 → S → Prop} {px : SX → Prop} {B : S → State → Prop} {BX : String → SX → State → Prop} {AX : Nat → Prop} (hr : vx_Run p l e R s m args below meth c H locs cells slots mc ms (F0 m pc ls st0) rest (va_Qf post B A1 a) (vx_X px BX AX) free) (hS : va_S A0 H0 H locs) (hA : ∀ q, q < H.size → A1 q → A0 q) (hf : ∀ q, free q → A0 q) (hAX : ∀ q, q < H.size → AX q → A0 q)
    (kx : ∀ (E : String) (ce : Cell) (q9 : Addr) (u : SX) (t : State) (H1 : Heap) (locs1 : List Loc), t.heap = H1 → s.vm.Alike t.vm → px u → BX E u t → H.size ≤ H1.size → (∀ q : Nat, q < H.size → ¬ AX q → H1[q]? = H[q]?) → va_S A0 H0 H1 locs1 → H1[q9]? = some ce → ce.vm = .none → s.vm.findClass E = some ce.cls → vx_W p l e R s m args below meth c H1 locs1 (cells + mc) (slots + ms) Q (F0 m pc ls rest) q9)
    (kk : ∀ (r : UInt32) (u : S) (t : State) (H1 : Heap) (locs1 : List Loc), t.heap = H1 → s.vm.Alike t.vm → post r u → B u t → H.size ≤ H1.size → (∀ q : Nat, q < H.size → ¬ A1 q → H1[q]? = H[q]?) → va_S A0 H0 H1 locs1 → W p l e R s m args below meth c H1 locs1 (cells + mc) (slots + ms) Q (F0 m (pc + 3) ls (.float r :: rest))) : W p l e R s m args below meth c H locs cells slots Q (F0 m pc ls st0) := by
  intro T hT X
  rcases hr T hT X with ⟨v, st₀, t, T', L, h0, X', hL, e1, e2, ⟨⟨r, u, hv, hp, hb⟩, hF⟩, st⟩ | ⟨q, st₀, t, T', L, E, ce, h0, X', hL, e1, e2, ⟨u, hp, hb, hF⟩, hce, hcv, hcl, st⟩
  · cases hv
    obtain ⟨k1, k2, k3⟩ := vx_keep h0 e1 hS hA hf hL hF
    obtain ⟨t2, a1, b1⟩ := kk r u t T'.heap (locs ++ L) e1.symm (by rw [← e2]; exact X'.warmed.alike) hp hb k1 k2 k3 T' rfl X'
    exact ⟨t2, st t2 a1, b1⟩
  · obtain ⟨k1, k2, k3⟩ := vx_keep h0 e1 hS hAX hf hL hF
    obtain ⟨t2, a1, b1⟩ := kx E ce q u t T'.heap (locs ++ L) e1.symm (by rw [← e2]; exact X'.warmed.alike) hp hb k1 k2 k3 (by rw [e1]; exact hce) hcv hcl T' rfl X'
    exact ⟨t2, st.trans a1, b1⟩
theorem vx_calld {S SX : Type} {post : UInt64 → S → Prop} {px : SX → Prop} {B : S → State → Prop} {BX : String → SX → State → Prop} {AX : Nat → Prop} (hr : vx_Run p l e R s m args below meth c H locs cells slots mc ms (F0 m pc ls st0) rest (va_Qd post B A1 a) (vx_X px BX AX) free) (hS : va_S A0 H0 H locs) (hA : ∀ q, q < H.size → A1 q → A0 q) (hf : ∀ q, free q → A0 q) (hAX : ∀ q, q < H.size → AX q → A0 q)
    (kx : ∀ (E : String) (ce : Cell) (q9 : Addr) (u : SX) (t : State) (H1 : Heap) (locs1 : List Loc), t.heap = H1 → s.vm.Alike t.vm → px u → BX E u t → H.size ≤ H1.size → (∀ q : Nat, q < H.size → ¬ AX q → H1[q]? = H[q]?) → va_S A0 H0 H1 locs1 → H1[q9]? = some ce → ce.vm = .none → s.vm.findClass E = some ce.cls → vx_W p l e R s m args below meth c H1 locs1 (cells + mc) (slots + ms) Q (F0 m pc ls rest) q9)
    (kk : ∀ (r : UInt64) (u : S) (t : State) (H1 : Heap) (locs1 : List Loc), t.heap = H1 → s.vm.Alike t.vm → post r u → B u t → H.size ≤ H1.size → (∀ q : Nat, q < H.size → ¬ A1 q → H1[q]? = H[q]?) → va_S A0 H0 H1 locs1 → W p l e R s m args below meth c H1 locs1 (cells + mc) (slots + ms) Q (F0 m (pc + 3) ls (.double r :: rest))) : W p l e R s m args below meth c H locs cells slots Q (F0 m pc ls st0) := by
  intro T hT X
  rcases hr T hT X with ⟨v, st₀, t, T', L, h0, X', hL, e1, e2, ⟨⟨r, u, hv, hp, hb⟩, hF⟩, st⟩ | ⟨q, st₀, t, T', L, E, ce, h0, X', hL, e1, e2, ⟨u, hp, hb, hF⟩, hce, hcv, hcl, st⟩
  · cases hv
    obtain ⟨k1, k2, k3⟩ := vx_keep h0 e1 hS hA hf hL hF
    obtain ⟨t2, a1, b1⟩ := kk r u t T'.heap (locs ++ L) e1.symm (by rw [← e2]; exact X'.warmed.alike) hp hb k1 k2 k3 T' rfl X'
    exact ⟨t2, st t2 a1, b1⟩
  · obtain ⟨k1, k2, k3⟩ := vx_keep h0 e1 hS hAX hf hL hF
    obtain ⟨t2, a1, b1⟩ := kx E ce q u t T'.heap (locs ++ L) e1.symm (by rw [← e2]; exact X'.warmed.alike) hp hb k1 k2 k3 (by rw [e1]; exact hce) hcv hcl T' rfl X'
    exact ⟨t2, st.trans a1, b1⟩
theorem vx_callv {S SX : Type} {post : S → Prop} {px : SX → Prop} {B : S → State → Prop} {BX : String → SX → State → Prop} {AX : Nat → Prop} (hr : vx_Run p l e R s m args below meth c H locs cells slots mc ms (F0 m pc ls st0) rest (va_Qv post B A1 a) (vx_X px BX AX) free) (hS : va_S A0 H0 H locs) (hA : ∀ q, q < H.size → A1 q → A0 q) (hf : ∀ q, free q → A0 q) (hAX : ∀ q, q < H.size → AX q → A0 q)
    (kx : ∀ (E : String) (ce : Cell) (q9 : Addr) (u : SX) (t : State) (H1 : Heap) (locs1 : List Loc), t.heap = H1 → s.vm.Alike t.vm → px u → BX E u t → H.size ≤ H1.size → (∀ q : Nat, q < H.size → ¬ AX q → H1[q]? = H[q]?) → va_S A0 H0 H1 locs1 → H1[q9]? = some ce → ce.vm = .none → s.vm.findClass E = some ce.cls → vx_W p l e R s m args below meth c H1 locs1 (cells + mc) (slots + ms) Q (F0 m pc ls rest) q9)
    (kk : ∀ (u : S) (t : State) (H1 : Heap) (locs1 : List Loc), t.heap = H1 → s.vm.Alike t.vm → post u → B u t → H.size ≤ H1.size → (∀ q : Nat, q < H.size → ¬ A1 q → H1[q]? = H[q]?) → va_S A0 H0 H1 locs1 → W p l e R s m args below meth c H1 locs1 (cells + mc) (slots + ms) Q (F0 m (pc + 3) ls (rest))) : W p l e R s m args below meth c H locs cells slots Q (F0 m pc ls st0) := by
  intro T hT X
  rcases hr T hT X with ⟨v, st₀, t, T', L, h0, X', hL, e1, e2, ⟨⟨u, hv, hp, hb⟩, hF⟩, st⟩ | ⟨q, st₀, t, T', L, E, ce, h0, X', hL, e1, e2, ⟨u, hp, hb, hF⟩, hce, hcv, hcl, st⟩
  · cases hv
    obtain ⟨k1, k2, k3⟩ := vx_keep h0 e1 hS hA hf hL hF
    obtain ⟨t2, a1, b1⟩ := kk u t T'.heap (locs ++ L) e1.symm (by rw [← e2]; exact X'.warmed.alike) hp hb k1 k2 k3 T' rfl X'
    exact ⟨t2, st t2 a1, b1⟩
  · obtain ⟨k1, k2, k3⟩ := vx_keep h0 e1 hS hAX hf hL hF
    obtain ⟨t2, a1, b1⟩ := kx E ce q u t T'.heap (locs ++ L) e1.symm (by rw [← e2]; exact X'.warmed.alike) hp hb k1 k2 k3 (by rw [e1]; exact hce) hcv hcl T' rfl X'
    exact ⟨t2, st.trans a1, b1⟩
/-- caught by the row x of this method's table; the rows ahead don't take it -/
theorem vx_catch {own name : String} {E : String} {ce : Cell} {q : Addr} (hown : s.vm.findClass own = some m.cls) (pre : List ExceptionTableEntry) (x : ExceptionTableEntry) (suf : List ExceptionTableEntry) (hsplit : c.exceptionTable.toList = pre ++ x :: suf)
    (hpass : ∀ z ∈ pre, covers z pc = false ∨ (z.catchType ≠ 0 ∧ ∃ nm : String, (Cond.classLink own z.catchType nm).before args s = true ∧ va_Nc E nm s)) (hx : covers x pc = true) (h0 : x.catchType ≠ 0)
    (hlink : (Cond.classLink own x.catchType name).before args s = true) (hcast : (Cond.castable E name).before args s = true) (hcell : H[q]? = some ce) (hv : ce.vm = .none) (hcl : s.vm.findClass E = some ce.cls)
    (kk : W p l e R s m args below meth c H locs cells slots Q (F0 m x.handlerPc ls [.ref q])) : vx_W p l e R s m args below meth c H locs cells slots Q (F0 m pc ls rest) q := by
  intro T hT X
  have hpl : e.platform.magicAccessors = ({} : Platform).magicAccessors := by rw [X.admits.platform]
  obtain ⟨c3, c4, hc3, hc4, hasg⟩ := Cond.castable_spec hcast
  cases Option.some.inj (hc3.symm.trans hcl)
  obtain ⟨c5, hc5, hcl5⟩ := Cond.classLink_spec hown hlink e.platform hpl
  cases Option.some.inj (hc4.symm.trans hc5)
  obtain ⟨vm', X', st⟩ := X.thenCaughtThrough q (g := F0 m pc ls rest) rfl (Steps.refl _) (by rw [hT]; exact hcell) (by rw [hv]; rfl) (by obtain ⟨k9, h9, -⟩ := Vm.findClass_spec hcl; exact ⟨k9, h9⟩) pre x suf hsplit
    (fun z hz => by
      rcases hpass z hz with h | ⟨hz0, nm, hl1, hn1⟩
      · exact Or.inl h
      · obtain ⟨c6, hc6, hcl6⟩ := Cond.classLink_spec hown hl1 e.platform hpl
        obtain ⟨a8, b8, h1, h2, h3⟩ := hn1
        cases Option.some.inj (h1.symm.trans hcl)
        cases Option.some.inj (h2.symm.trans hc6)
        exact Or.inr ⟨hz0, _, hcl6, h3⟩) hx (Or.inr ⟨h0, c4, hcl5, hasg⟩)
  obtain ⟨t, a1, b1⟩ := kk (T.setVm vm') hT X'
  exact ⟨t, st.trans a1, b1⟩
end Rows
section Ends
variable {p : Program} {l : Launch} {e : Env} {R : Room} {s : State} {m : MethodId} {args : Array Value} {below : List Frame} {meth : Method} {c : Code} {H : Heap} {locs : List Loc} {cells slots : Nat} {Q : State → Prop}
variable {mc ms : Nat} {free : Addr → Prop} {A0 A1 : Nat → Prop} {H0 : Heap} {a : Array Value} {ls : Array Slot} {st0 rest : List Value}
variable {Qc : Array Value → State → Outcome → State → Prop} {XC : String → State → State → Prop}
/-- what a body that may throw owes at its end -/
def vx_MQ (below : List Frame) (Qc : Array Value → State → Outcome → State → Prop) (XC : String → State → State → Prop) (a : Array Value) (s : State) (mc ms : Nat) (free : Addr → Prop) : State → Prop := fun t =>
  ∃ o, t.status = .running ∧ Ended t below o ∧ vx_Q Qc XC mc ms free a s o t
theorem vx_ret {g : JFrame} {mc ms : Nat} (k : W p l e R s m args below meth c H locs cells slots (MQ below Qc args s mc ms free) g) : W p l e R s m args below meth c H locs cells slots (vx_MQ below Qc XC args s mc ms free) g := by
  intro T hT X
  obtain ⟨t, a1, o, b1, b2, b3, b4⟩ := k T hT X
  exact ⟨t, a1, o, b1, b2, Or.inl ⟨b3, b4⟩⟩
/-- not caught here: it goes on to the caller -/
theorem vx_widen {g : JFrame} {q : Addr} {k n : Nat} (h1 : cells ≤ k) (h2 : slots ≤ n) (kk : vx_W p l e R s m args below meth c H locs k n Q g q) : vx_W p l e R s m args below meth c H locs cells slots Q g q := fun T hT X => kk T hT (stand_widen X h1 h2)
theorem vx_out {pc : Nat} {E : String} {ce : Cell} {q : Addr} {mc ms : Nat} (hout : ∀ x ∈ c.exceptionTable.toList, covers x pc = false) (hlocks : meth.locks = false) (hcell : H[q]? = some ce) (hv : ce.vm = .none) (hcl : s.vm.findClass E = some ce.cls)
    (hx : ∀ t : State, t.heap = H → s.vm.Alike t.vm → XC E s t) (hf : ∀ z ∈ locs, free z.base) (hc : cells ≤ mc) (hs : slots ≤ ms) :
    vx_W p l e R s m args below meth c H locs cells slots (vx_MQ below Qc XC args s mc ms free) (F0 m pc ls rest) q := by
  intro T hT X
  obtain ⟨st1, hrun, hend, hW, hsm⟩ := X.leaveThrown q (g := F0 m pc ls rest) rfl rfl rfl hout hlocks
  have hcell9 : (T.setFrames (.throwing q :: below)).heap[q]? = some ce := by
    show T.heap[q]? = some ce
    rw [hT]; exact hcell
  exact ⟨_, st1, .threw q, hrun, hend, Or.inr ⟨q, rfl, E, ce, locs, hx _ hT hW.alike, hcell9, hv, hcl, hW, hsm.mono hc hs, hf⟩⟩
theorem vx_frame {U : State} {k n : Nat} (h : s.sameButNew ({ U with vm := s.vm } : State) locs k n) : s.heap.size ≤ U.heap.size ∧ ∀ q : Nat, q < s.heap.size → (∀ z ∈ locs, z.base ≠ q) → U.heap[q]? = s.heap[q]? := by
  obtain ⟨-, h2, -, -, -, h6⟩ := h
  refine ⟨h2, fun q hq hz => ?_⟩
  obtain ⟨c9, e1, e2, e3, e4⟩ := h6 q _ (Array.getElem?_eq_getElem hq)
  have hs : c9.slots = (s.heap[q]).slots := Array.ext_getElem? fun i => e4 i fun hm => hz _ hm rfl
  have h9 : c9 = s.heap[q] := by
    rw [hs] at e2
    exact e2
  have e5 : U.heap[q]? = some c9 := e1
  rw [e5, h9, Array.getElem?_eq_getElem hq]
/-- the words of a throw but the four that speak of the heap -/
def vx_no (w : Cond) : Bool := decide (w ≠ .isRef (.static Bundle.tN "UNASSIGNED_STACK" Bundle.steD)) && decide (w ≠ .isRef (.static Bundle.tN "SUPPRESSED_SENTINEL" Bundle.listD)) && decide (w ≠ .laysStatic Bundle.tN "UNASSIGNED_STACK" Bundle.steD) && decide (w ≠ .laysStatic Bundle.tN "SUPPRESSED_SENTINEL" Bundle.listD)
def vx_at0 (own : String) (ic : Nat) (X : String) (names : List String) : List Cond := (Bundle.ownAtoms0 own ic X names).filter vx_no
def vx_atS (own : String) (ic : Nat) (X : String) (names : List String) : List Cond := (Bundle.ownAtoms own ic X names).filter vx_no
/-- a word that the tables alone decide, or a good one -/
def vx_ot (w : Cond) : Bool := w.onTables || goodWord w
theorem vx_ot_at {args a' : Array Value} {s U : State} {w : Cond} (hW : s.WarmedH U.vm) (hvm : s.vm = U.vm) (hg : vx_ot w = true) (h : w.before args s = true) : w.before a' U = true := by
  simp only [vx_ot, Bool.or_eq_true] at hg
  rcases hg with hg | hg
  · exact va_tabs hg hvm h
  · exact word_at hW (good_of_word hg) h
/-- a list's words: the good ones out of the method's own list, the others by premises of their own -/
theorem vx_hat {args : Array Value} {s : State} {L B : List Cond} (h1 : ∀ w ∈ L.filter goodWord, w.before args s = true) (h2 : ∀ w ∈ L.filter (fun w => !goodWord w), w ∈ B) (h3 : ∀ w ∈ B, w.before args s = true) : ∀ w ∈ L, w.before args s = true := by
  intro w hw
  by_cases g : goodWord w = true
  · exact h1 w (List.mem_filter.mpr ⟨hw, g⟩)
  · refine h3 w (h2 w (List.mem_filter.mpr ⟨hw, ?_⟩))
    show (!goodWord w) = true
    cases hgw : goodWord w
    · rfl
    · exact absurd hgw g
theorem vx_c {args : Array Value} {s : State} {w : Cond} {B : List Cond} (h : w.before args s = true) (t : ∀ w ∈ B, w.before args s = true) : ∀ w' ∈ w :: B, w'.before args s = true := fun w' h' => (List.mem_cons.mp h').elim (fun e => by rw [e]; exact h) (t w')
theorem vx_n {args : Array Value} {s : State} : ∀ w ∈ ([] : List Cond), w.before args s = true := fun _ h => nomatch h
theorem vx_own {args : Array Value} {s : State} {L : List Cond} (h1 : ∀ w ∈ L.filter vx_no, w.before args s = true)
    (hU : (Cond.isRef (.static Bundle.tN "UNASSIGNED_STACK" Bundle.steD)).before args s = true) (hN : (Cond.isRef (.static Bundle.tN "SUPPRESSED_SENTINEL" Bundle.listD)).before args s = true)
    (lU : (Cond.laysStatic Bundle.tN "UNASSIGNED_STACK" Bundle.steD).before args s = true) (lN : (Cond.laysStatic Bundle.tN "SUPPRESSED_SENTINEL" Bundle.listD).before args s = true) : ∀ w ∈ L, w.before args s = true := by
  intro w hw
  by_cases e1 : w = .isRef (.static Bundle.tN "UNASSIGNED_STACK" Bundle.steD)
  · rw [e1]; exact hU
  · by_cases e2 : w = .isRef (.static Bundle.tN "SUPPRESSED_SENTINEL" Bundle.listD)
    · rw [e2]; exact hN
    · by_cases e3 : w = .laysStatic Bundle.tN "UNASSIGNED_STACK" Bundle.steD
      · rw [e3]; exact lU
      · by_cases e4 : w = .laysStatic Bundle.tN "SUPPRESSED_SENTINEL" Bundle.listD
        · rw [e4]; exact lN
        · exact h1 w (List.mem_filter.mpr ⟨hw, by unfold vx_no; rw [decide_eq_true e1, decide_eq_true e2, decide_eq_true e3, decide_eq_true e4]; rfl⟩)
/-- where a static field lies, its class's statics cell in H -/
def vx_L (C n d : String) (A : Nat → Prop) (U : State) (H : Heap) : Prop := ∃ (c : ClassId) (k : Class) (i : Nat) (f : Field) (a : Nat) (cell : Cell), U.vm.findClass C = some c ∧ U.fieldFound? C n d = some (c, k, i, f) ∧ f.isStatic = true ∧ k.statics = some a ∧ H[a]? = some cell ∧ cell.vm.isStatics = true ∧ cell.cls = c ∧ f.slot < cell.slots.size ∧ k.staticTypes[f.slot]? = some f.type ∧ ¬ A a
theorem vx_L.moved {C n d : String} {A : Nat → Prop} {u U : State} {H : Heap} (hvm : u.vm.Alike U.vm) (h : vx_L C n d A u H) : vx_L C n d A U H := by
  obtain ⟨c, k, i, f, a, cell, h1, h2, h3, h4, h5, h6, h7, h8, h9, h10⟩ := h
  obtain ⟨k', hi', he⟩ := State.fieldFound?_setVm hvm h2
  exact ⟨c, k', i, f, a, cell, by rw [hvm.findClass]; exact h1, hi', h3, by rw [he]; exact h4, h5, h6, h7, h8, by rw [he]; exact h9, h10⟩
theorem vx_L.kept {C n d : String} {A : Nat → Prop} {U : State} {H H1 : Heap} (h : vx_L C n d A U H) (hq : ∀ a : Nat, a < H.size → ¬ A a → H1[a]? = H[a]?) : vx_L C n d A U H1 := by
  obtain ⟨c, k, i, f, a, cell, h1, h2, h3, h4, h5, h6, h7, h8, h9, h10⟩ := h
  exact ⟨c, k, i, f, a, cell, h1, h2, h3, h4, by rw [hq a (Array.getElem?_eq_some_iff.mp h5).1 h10]; exact h5, h6, h7, h8, h9, h10⟩
theorem vx_L.narrow {C n d : String} {A B : Nat → Prop} {U : State} {H : Heap} (h : vx_L C n d A U H) (hAB : ∀ q, B q → A q) : vx_L C n d B U H := by
  obtain ⟨c, k, i, f, a, cell, h1, h2, h3, h4, h5, h6, h7, h8, h9, h10⟩ := h
  exact ⟨c, k, i, f, a, cell, h1, h2, h3, h4, h5, h6, h7, h8, h9, fun z => h10 (hAB _ z)⟩
theorem vx_L.word {C n d : String} {A : Nat → Prop} {s : State} {args : Array Value} (h : vx_L C n d A s s.heap) : (Cond.laysStatic C n d).before args s = true := by
  obtain ⟨c, k, i, f, a, cell, h1, h2, h3, h4, h5, h6, h7, h8, h9, -⟩ := h
  show (Cond.laysStatic C n d).holds args s none s [] = true
  exact Cond.laysStatic_of h1 h2 h3 h4 h5 h6 h7 h8 h9
/-- .. and what it holds: null or some reference -/
def vx_Zq (C n d : String) (A : Nat → Prop) (U : State) (H : Heap) : Prop := va_Zq C n d A U H ∧ vx_L C n d A U H
theorem vx_Zq.moved {C n d : String} {A : Nat → Prop} {u U : State} {H : Heap} (hvm : u.vm.Alike U.vm) (h : vx_Zq C n d A u H) : vx_Zq C n d A U H := ⟨va_Zq.moved hvm h.1, vx_L.moved hvm h.2⟩
theorem vx_Zq.kept {C n d : String} {A : Nat → Prop} {U : State} {H H1 : Heap} (h : vx_Zq C n d A U H) (hq : ∀ a : Nat, a < H.size → ¬ A a → H1[a]? = H[a]?) : vx_Zq C n d A U H1 := ⟨va_Zq.kept h.1 hq, vx_L.kept h.2 hq⟩
theorem vx_Zq.narrow {C n d : String} {A B : Nat → Prop} {U : State} {H : Heap} (h : vx_Zq C n d A U H) (hAB : ∀ q, B q → A q) : vx_Zq C n d B U H := ⟨va_Zq.narrow h.1 hAB, vx_L.narrow h.2 hAB⟩
theorem vx_Zqof {args : Array Value} {s : State} {C n d : String} {A : Nat → Prop} (hl : (Cond.laysStatic C n d).before args s = true) (hini : (Cond.initialized C).before args s = true) (h : (Cond.isRef (.static C n d)).before args s = true) (hA : ∀ a : Nat, a < s.heap.size → ¬ A a) : vx_Zq C n d A s s.heap := by
  refine ⟨va_Zqof hl hini h hA, ?_⟩
  obtain ⟨c, k, i, f, a, cell, h1, h2, h3, h4, h5, h6, h7, h8, h9⟩ := Cond.laysStatic_spec hl
  exact ⟨c, k, i, f, a, cell, h1, h2, h3, h4, h5, h6, h7, h8, h9, hA a (Array.getElem?_eq_some_iff.mp h5).1⟩
theorem vx_isRef {C n d : String} {v : Value} {A : Nat → Prop} {s : State} {args : Array Value} (h : va_Z C n d v A s s.heap) (hv : v.isRef = true) : (Cond.isRef (.static C n d)).before args s = true := by
  obtain ⟨cf, kf, fi, f, a, cell, h1, h2, h3, h4, h5, h6, h7, -⟩ := h
  have he : (Term.static C n d).eval args s none [] s = some v := by
    simp [Term.eval, State.fieldNamed?, h1, h2, h4, h5, h6, h7]
  simp only [Cond.before, Cond.holds, Cond.value, he]
  cases v <;> simp_all [Value.isRef]
theorem vx_isRefq {C n d : String} {A : Nat → Prop} {s : State} {args : Array Value} (h : va_Zq C n d A s s.heap) : (Cond.isRef (.static C n d)).before args s = true := by
  rcases h with h | ⟨t, h⟩
  · exact vx_isRef h rfl
  · exact vx_isRef h rfl
/-- the same frame, seen from here: as if the method were called anew in this heap -/
theorem vx_rebase {T : State} (X : Stand p l e R s m args below meth c T locs cells slots) {R' : Room} (hf : R'.frames ≤ R.frames) (hl : R'.locals ≤ R.locals) (hc : cells + R'.cells ≤ R.cells) (hs : slots + R'.slots ≤ R.slots) :
    Stand p l e R' ((T.setVm s.vm).setFrames (.invoking m args :: below)) m args below meth c T [] 0 0 := by
  have htop : (T.setVm s.vm).topJava?.isSome := X.here.top
  have hF : ((T.setVm s.vm).setFrames (.invoking m args :: below)).frames = .invoking m args :: below := State.frames_setFrames _ (State.cur_lt_of_top htop)
  obtain ⟨g₀, hg0⟩ := Option.isSome_iff_exists.mp htop
  obtain ⟨r, hr⟩ := State.topJava?_eq_some.mp hg0
  have hl9 : e.platform.stackLimits (T.setVm s.vm).me = e.platform.stackLimits s.me := X.limits
  have hb9 : (T.setVm s.vm).me.stackBytes = s.me.stackBytes := X.bytes
  refine ⟨X.admits, X.cas, X.clock, hF, ?_, X.hears, X.method, X.code, X.here, X.tail, X.warmed, ?_, ?_, ?_⟩
  · have h := X.room
    have hU : ((T.setVm s.vm).setFrames (.invoking m args :: below)).localsInUse = s.localsInUse := by
      rw [State.localsInUse_invoking hF (meth := meth) (c := c) X.method X.code, State.localsInUse_invoking X.frames X.method X.code]
    simp only [State.hasRoom, Bool.and_eq_true, decide_eq_true_eq] at h ⊢
    obtain ⟨⟨⟨⟨h1, h2, h3, h4, h5, h6⟩, h7⟩, h8⟩, h9⟩ := h
    rw [X.frames, List.length_cons] at h2 h3
    have q1 := X.heapSize
    have q2 := X.used
    simp only [hF, hU, List.length_cons, State.stackLimits_setFrames, State.stackBytes_setFrames, hl9, hb9]
    refine ⟨⟨⟨⟨by omega, by omega, by omega, by omega, by omega, h6⟩, ?_⟩, ?_⟩, X.book⟩
    · show T.heap.size + R'.cells ≤ e.platform.maxCells
      omega
    · show T.slotsUsed + R'.slots ≤ e.platform.maxSlots
      omega
  · rw [State.stackLimits_setFrames]; rfl
  · rw [State.stackBytes_setFrames]; rfl
  · refine ⟨?_, Nat.le_refl _, Nat.le_refl _, ?_, ?_, fun a c9 h9 => ⟨c9, h9, rfl, rfl, fun _ _ => rfl⟩⟩
    · obtain ⟨t, ht, -⟩ := State.frames_cons hr
      show T.setVm s.vm = { ((T.setVm s.vm).setFrames (.invoking m args :: below)).setFrames (T.setVm s.vm).frames with heap := T.heap, slotsUsed := T.slotsUsed }
      rw [State.setFrames_setFrames, State.setFrames_self ht]
      rfl
    · show T.slotsUsed = T.slotsUsed + ((T.heap.toList.drop T.heap.size).map (·.slots.size)).sum
      rw [List.drop_eq_nil_of_le (Nat.le_of_eq Array.length_toList)]
      rfl
    · show ((T.heap.toList.drop T.heap.size).map (·.slots.size)).sum ≤ 0
      rw [List.drop_eq_nil_of_le (Nat.le_of_eq Array.length_toList)]
      exact Nat.le_refl _
/-- 'throw new E()': new; dup; invokespecial; athrow -/
theorem vx_throw0 {cc : ByteArray} {pc : Nat} (hexec : p.tables.exec = Jvm.exec) (hb : c.code = cc) (hl : l.stackTraces = false) {own cls : String} {names : List String} {ik ic mc ms : Nat} {A : Nat → Prop}
    (hown : s.vm.findClass own = some m.cls) (hcls : Bundle.fit cls = true) (hnames : ∀ n ∈ names, Bundle.fit n = true)
    (hk : (Cond.classLink own ik cls).before args s = true) (hini : (Cond.initialized cls).before args s = true) (hat : ∀ w ∈ vx_at0 own ic cls names, w.before args s = true)
    (hgood : ∀ w ∈ Cond.classLink own ik cls :: Cond.initialized cls :: vx_at0 own ic cls names, vx_ot w = true)
    (hU : vx_Zq Bundle.tN "UNASSIGNED_STACK" Bundle.steD A s s.heap) (hN : vx_Zq Bundle.tN "SUPPRESSED_SENTINEL" Bundle.listD A s s.heap) (hS : va_S A s.heap H locs) (hsize : ls.size = c.maxLocals)
    (d0 : decode cc pc = .ok (.new ik, 3)) (d3 : decode cc (pc + 3) = .ok (.dup, 1)) (d4 : decode cc (pc + 4) = .ok (.invokespecial ic, 3)) (d7 : decode cc (pc + 7) = .ok (.athrow, 1))
    (hout : ∀ x ∈ c.exceptionTable.toList, covers x (pc + 7) = false)
    (hRframes : names.length + 3 < R.frames) (hRlocals : (rest.map fun v => v.category).sum + (13 * (names.length + 1) + 42) ≤ R.locals) (hRcells : cells + 1 ≤ R.cells) (hRslots : slots + 6 ≤ R.slots) (hlocks : meth.locks = false)
    (hx : ∀ t : State, s.vm.Alike t.vm → H.size ≤ t.heap.size → (∀ q : Nat, q < H.size → t.heap[q]? = H[q]?) → XC cls s t)
    (hf : ∀ z ∈ locs, free z.base) (hc : cells + 1 ≤ mc) (hs : slots + 6 ≤ ms) :
    W p l e R s m args below meth c H locs cells slots (vx_MQ below Qc XC args s mc ms free) (F0 m pc ls rest) := by
  intro T hT X
  have htr : e.platform.stackTraces = false := (show e.platform.stackTraces = l.stackTraces by rw [X.admits.platform]).trans hl
  have Y := vx_rebase X (R' := { frames := R.frames, locals := R.locals, cells := 1, slots := 6 }) (Nat.le_refl _) (Nat.le_refl _) hRcells hRslots
  obtain ⟨s', hA⟩ : ∃ z, z = (T.setVm s.vm).setFrames (.invoking m args :: below) := ⟨_, rfl⟩
  rw [← hA] at Y
  have hvm : s'.vm = s.vm := by rw [hA]; rfl
  have hhp : s'.heap = H := by rw [hA]; exact hT
  have hW0 : s.WarmedH s'.vm := by rw [hvm]; exact State.WarmedH.refl s
  have hat' : ∀ w ∈ vx_at0 own ic cls names, w.before args s' = true := fun w hw => vx_ot_at hW0 hvm.symm (hgood w (List.mem_cons_of_mem _ (List.mem_cons_of_mem _ hw))) (hat w hw)
  have hk' : (Cond.classLink own ik cls).before args s' = true := vx_ot_at hW0 hvm.symm (hgood _ List.mem_cons_self) hk
  have hini' : (Cond.initialized cls).before args s' = true := vx_ot_at hW0 hvm.symm (hgood _ (List.mem_cons_of_mem _ List.mem_cons_self)) hini
  have hU' : vx_Zq Bundle.tN "UNASSIGNED_STACK" Bundle.steD A s' s'.heap := by rw [hhp]; exact vx_Zq.moved hW0.alike (hU.kept hS.2.1)
  have hN' : vx_Zq Bundle.tN "SUPPRESSED_SENTINEL" Bundle.listD A s' s'.heap := by rw [hhp]; exact vx_Zq.moved hW0.alike (hN.kept hS.2.1)
  have h : ∀ w ∈ Bundle.ownAtoms0 own ic cls names, w.before args s' = true := vx_own hat' (vx_isRefq hU'.1) (vx_isRefq hN'.1) hU'.2.word hN'.2.word
  have hown' : s'.vm.findClass own = some m.cls := by rw [hvm]; exact hown
  have hins : (Cond.instantiable cls 6).before args s' = true := h _ (by simp [Bundle.ownAtoms0])
  obtain ⟨vm₁, cX, kX, hfX, hkX, -, -, X₁, st1⟩ := Y.newCold hexec (own := own) (C := cls) (index := ik) (n := 6) hown' hk' hins hini'
    (g := F0 m pc ls rest) rfl (by rw [hb]; exact d0) (Nat.le_refl _) (Nat.le_refl _)
  generalize hT1 : (T.setVm vm₁).pushCell { cls := cX, slots := kX.instanceTypes.map defaultValue, vm := .none } = T1 at X₁ st1
  have hcat : (Value.ref T.heap.size).category = 1 := rfl
  have hcellA : T1.heap[T.heap.size]? = some (freshCell cX kX) := by rw [← hT1]; exact State.heap_pushCell_size _ _
  have d3' : decode c.code (pc + 3) = .ok (.dup, 1) := by rw [hb]; exact d3
  obtain ⟨U, hsteps, hrun, hend, hW, hsame, ce, hce, hO⟩ := X₁.ctorThrow0 hexec htr (own := own) (cls := cls) (names := names) (ic := ic) hown' hcls hnames h (fun x hx => nomatch hx) hfX hkX hcellA (by rw [hhp, hT]; exact Nat.le_refl _)
    (g := { method := m, pc := pc + 4, locals := ls, stack := .ref T.heap.size :: .ref T.heap.size :: rest, locked := none }) rfl hsize rfl rfl (rest := rest) rfl
    (by rw [hb]; exact d4) (by rw [hb]; exact d7) hout hRframes (by simp only [List.map_cons, List.sum_cons, hcat]; omega) hlocks
  obtain ⟨f1, f2⟩ := vx_frame hsame
  rw [hhp] at f1 f2
  have hWs : s.WarmedH U.vm := State.WarmedH.trans hW0 hW
  have hcl : s.vm.findClass cls = some ce.cls := by
    have h9 := hO.cls
    rw [hvm] at h9
    exact h9
  have hall : s.sameButNew ({ U with vm := s.vm } : State) locs mc ms := by
    subst hA
    obtain ⟨e1, e2⟩ := hsame
    rw [State.setFrames_setFrames] at e1
    have h2 : (T.setVm s.vm).sameButNew ({ U with vm := s.vm } : State) [] (0 + 1) (0 + 6) := ⟨e1, e2⟩
    have h3 := X.same.trans h2
    rw [List.append_nil] at h3
    exact h3.mono hc hs
  refine ⟨U, ?_, .threw T.heap.size, hrun, hend, Or.inr ⟨T.heap.size, rfl, cls, ce, locs, hx U hWs.alike f1 (fun q hq => f2 q hq (fun z hz => nomatch hz)), hce, hO.vm, hcl, hWs, hall, hf⟩⟩
  refine st1 _ ?_
  show Steps p.tables e below (T1.setTop { method := m, pc := pc + 3, locals := ls, stack := .ref T.heap.size :: rest, locked := none }) _
  jvm_step X₁.here [X₁.here.top, hexec, d3', Value.category]
  exact hsteps
/-- 'throw new E("text")': new; dup; ldc; invokespecial; athrow -/
theorem vx_throwS {cc : ByteArray} {pc : Nat} (hexec : p.tables.exec = Jvm.exec) (hb : c.code = cc) (hl : l.stackTraces = false) {own cls text : String} {names : List String} {ik is ic mc ms sa : Nat} {A : Nat → Prop}
    (hown : s.vm.findClass own = some m.cls) (hcls : Bundle.fit cls = true) (hnames : ∀ n ∈ names, Bundle.fit n = true)
    (hk : (Cond.classLink own ik cls).before args s = true) (hini : (Cond.initialized cls).before args s = true) (hstr : vk_R own is text sa s) (hat : ∀ w ∈ vx_atS own ic cls names, w.before args s = true)
    (hgood : ∀ w ∈ Cond.classLink own ik cls :: Cond.initialized cls :: vx_atS own ic cls names, vx_ot w = true)
    (hU : vx_Zq Bundle.tN "UNASSIGNED_STACK" Bundle.steD A s s.heap) (hN : vx_Zq Bundle.tN "SUPPRESSED_SENTINEL" Bundle.listD A s s.heap) (hS : va_S A s.heap H locs) (hsize : ls.size = c.maxLocals)
    (d0 : decode cc pc = .ok (.new ik, 3)) (d3 : decode cc (pc + 3) = .ok (.dup, 1)) (d4 : decode cc (pc + 4) = .ok (.ldc is, 2)) (d6 : decode cc (pc + 6) = .ok (.invokespecial ic, 3)) (d9 : decode cc (pc + 9) = .ok (.athrow, 1))
    (hout : ∀ x ∈ c.exceptionTable.toList, covers x (pc + 9) = false)
    (hRframes : names.length + 3 < R.frames) (hRlocals : (rest.map fun v => v.category).sum + (13 * (names.length + 1) + 43) ≤ R.locals) (hRcells : cells + 1 ≤ R.cells) (hRslots : slots + 6 ≤ R.slots) (hlocks : meth.locks = false)
    (hx : ∀ t : State, s.vm.Alike t.vm → H.size ≤ t.heap.size → (∀ q : Nat, q < H.size → t.heap[q]? = H[q]?) → XC cls s t)
    (hf : ∀ z ∈ locs, free z.base) (hc : cells + 1 ≤ mc) (hs : slots + 6 ≤ ms) :
    W p l e R s m args below meth c H locs cells slots (vx_MQ below Qc XC args s mc ms free) (F0 m pc ls rest) := by
  intro T hT X
  have htr : e.platform.stackTraces = false := (show e.platform.stackTraces = l.stackTraces by rw [X.admits.platform]).trans hl
  have Y := vx_rebase X (R' := { frames := R.frames, locals := R.locals, cells := 1, slots := 6 }) (Nat.le_refl _) (Nat.le_refl _) hRcells hRslots
  obtain ⟨s', hA⟩ : ∃ z, z = (T.setVm s.vm).setFrames (.invoking m args :: below) := ⟨_, rfl⟩
  rw [← hA] at Y
  have hvm : s'.vm = s.vm := by rw [hA]; rfl
  have hhp : s'.heap = H := by rw [hA]; exact hT
  have hW0 : s.WarmedH s'.vm := by rw [hvm]; exact State.WarmedH.refl s
  have hat' : ∀ w ∈ vx_atS own ic cls names, w.before args s' = true := fun w hw => vx_ot_at hW0 hvm.symm (hgood w (List.mem_cons_of_mem _ (List.mem_cons_of_mem _ hw))) (hat w hw)
  have hk' : (Cond.classLink own ik cls).before args s' = true := vx_ot_at hW0 hvm.symm (hgood _ List.mem_cons_self) hk
  have hini' : (Cond.initialized cls).before args s' = true := vx_ot_at hW0 hvm.symm (hgood _ (List.mem_cons_of_mem _ List.mem_cons_self)) hini
  have hU' : vx_Zq Bundle.tN "UNASSIGNED_STACK" Bundle.steD A s' s'.heap := by rw [hhp]; exact vx_Zq.moved hW0.alike (hU.kept hS.2.1)
  have hN' : vx_Zq Bundle.tN "SUPPRESSED_SENTINEL" Bundle.listD A s' s'.heap := by rw [hhp]; exact vx_Zq.moved hW0.alike (hN.kept hS.2.1)
  have h : ∀ w ∈ Bundle.ownAtoms own ic cls names, w.before args s' = true := vx_own hat' (vx_isRefq hU'.1) (vx_isRefq hN'.1) hU'.2.word hN'.2.word
  have hown' : s'.vm.findClass own = some m.cls := by rw [hvm]; exact hown
  have hins : (Cond.instantiable cls 6).before args s' = true := h _ (by simp [Bundle.ownAtoms])
  obtain ⟨vm₁, cX, kX, hfX, hkX, -, -, X₁, st1⟩ := Y.newCold hexec (own := own) (C := cls) (index := ik) (n := 6) hown' hk' hins hini'
    (g := F0 m pc ls rest) rfl (by rw [hb]; exact d0) (Nat.le_refl _) (Nat.le_refl _)
  generalize hT1 : (T.setVm vm₁).pushCell { cls := cX, slots := kX.instanceTypes.map defaultValue, vm := .none } = T1 at X₁ st1
  have hcat : (Value.ref T.heap.size).category = 1 := rfl
  have hcellA : T1.heap[T.heap.size]? = some (freshCell cX kX) := by rw [← hT1]; exact State.heap_pushCell_size _ _
  have d3' : decode c.code (pc + 3) = .ok (.dup, 1) := by rw [hb]; exact d3
  have d4' : decode c.code (pc + 4) = .ok (.ldc is, 2) := by rw [hb]; exact d4
  have hstr' : vk_R own is text sa s' := vk_R.warm hW0 hstr
  obtain ⟨U, hsteps, hrun, hend, hW, hsame, ce, hce, hO⟩ := X₁.ctorThrowS hexec htr (own := own) (cls := cls) (names := names) (ic := ic) hown' hcls hnames h (fun x hx => nomatch hx) hfX hkX hcellA (by rw [hhp, hT]; exact Nat.le_refl _) (msg := .ref sa) rfl
    (g := { method := m, pc := pc + 6, locals := ls, stack := .ref sa :: .ref T.heap.size :: .ref T.heap.size :: rest, locked := none }) rfl hsize rfl rfl (rest := rest) rfl
    (by rw [hb]; exact d6) (by rw [hb]; exact d9) hout hRframes (by simp only [List.map_cons, List.sum_cons, hcat]; omega) hlocks
  obtain ⟨f1, f2⟩ := vx_frame hsame
  rw [hhp] at f1 f2
  have hWs : s.WarmedH U.vm := State.WarmedH.trans hW0 hW
  have hcl : s.vm.findClass cls = some ce.cls := by
    have h9 := hO.cls
    rw [hvm] at h9
    exact h9
  have hall : s.sameButNew ({ U with vm := s.vm } : State) locs mc ms := by
    subst hA
    obtain ⟨e1, e2⟩ := hsame
    rw [State.setFrames_setFrames] at e1
    have h2 : (T.setVm s.vm).sameButNew ({ U with vm := s.vm } : State) [] (0 + 1) (0 + 6) := ⟨e1, e2⟩
    have h3 := X.same.trans h2
    rw [List.append_nil] at h3
    exact h3.mono hc hs
  refine ⟨U, ?_, .threw T.heap.size, hrun, hend, Or.inr ⟨T.heap.size, rfl, cls, ce, locs, hx U hWs.alike f1 (fun q hq => f2 q hq (fun z hz => nomatch hz)), hce, hO.vm, hcl, hWs, hall, hf⟩⟩
  refine st1 _ ?_
  show Steps p.tables e below (T1.setTop { method := m, pc := pc + 3, locals := ls, stack := .ref T.heap.size :: rest, locked := none }) _
  jvm_step X₁.here [X₁.here.top, hexec, d3', Value.category]
  exact X₁.ldcString hexec (own := own) (text := text) (index := is) (a := sa) hown' hstr'.1 hstr'.2
    (g := { method := m, pc := pc + 4, locals := ls, stack := .ref T.heap.size :: .ref T.heap.size :: rest, locked := none }) rfl d4' _ hsteps
/-- 'throw new E("text")', the text by a wide index -/
theorem vx_throwSW {cc : ByteArray} {pc : Nat} (hexec : p.tables.exec = Jvm.exec) (hb : c.code = cc) (hl : l.stackTraces = false) {own cls text : String} {names : List String} {ik is ic mc ms sa : Nat} {A : Nat → Prop}
    (hown : s.vm.findClass own = some m.cls) (hcls : Bundle.fit cls = true) (hnames : ∀ n ∈ names, Bundle.fit n = true)
    (hk : (Cond.classLink own ik cls).before args s = true) (hini : (Cond.initialized cls).before args s = true) (hstr : vk_R own is text sa s) (hat : ∀ w ∈ vx_atS own ic cls names, w.before args s = true)
    (hgood : ∀ w ∈ Cond.classLink own ik cls :: Cond.initialized cls :: vx_atS own ic cls names, vx_ot w = true)
    (hU : vx_Zq Bundle.tN "UNASSIGNED_STACK" Bundle.steD A s s.heap) (hN : vx_Zq Bundle.tN "SUPPRESSED_SENTINEL" Bundle.listD A s s.heap) (hS : va_S A s.heap H locs) (hsize : ls.size = c.maxLocals)
    (d0 : decode cc pc = .ok (.new ik, 3)) (d3 : decode cc (pc + 3) = .ok (.dup, 1)) (d4 : decode cc (pc + 4) = .ok (.ldc_w is, 3)) (d7 : decode cc (pc + 7) = .ok (.invokespecial ic, 3)) (d10 : decode cc (pc + 10) = .ok (.athrow, 1))
    (hout : ∀ x ∈ c.exceptionTable.toList, covers x (pc + 10) = false)
    (hRframes : names.length + 3 < R.frames) (hRlocals : (rest.map fun v => v.category).sum + (13 * (names.length + 1) + 43) ≤ R.locals) (hRcells : cells + 1 ≤ R.cells) (hRslots : slots + 6 ≤ R.slots) (hlocks : meth.locks = false)
    (hx : ∀ t : State, s.vm.Alike t.vm → H.size ≤ t.heap.size → (∀ q : Nat, q < H.size → t.heap[q]? = H[q]?) → XC cls s t)
    (hf : ∀ z ∈ locs, free z.base) (hc : cells + 1 ≤ mc) (hs : slots + 6 ≤ ms) :
    W p l e R s m args below meth c H locs cells slots (vx_MQ below Qc XC args s mc ms free) (F0 m pc ls rest) := by
  intro T hT X
  have htr : e.platform.stackTraces = false := (show e.platform.stackTraces = l.stackTraces by rw [X.admits.platform]).trans hl
  have Y := vx_rebase X (R' := { frames := R.frames, locals := R.locals, cells := 1, slots := 6 }) (Nat.le_refl _) (Nat.le_refl _) hRcells hRslots
  obtain ⟨s', hA⟩ : ∃ z, z = (T.setVm s.vm).setFrames (.invoking m args :: below) := ⟨_, rfl⟩
  rw [← hA] at Y
  have hvm : s'.vm = s.vm := by rw [hA]; rfl
  have hhp : s'.heap = H := by rw [hA]; exact hT
  have hW0 : s.WarmedH s'.vm := by rw [hvm]; exact State.WarmedH.refl s
  have hat' : ∀ w ∈ vx_atS own ic cls names, w.before args s' = true := fun w hw => vx_ot_at hW0 hvm.symm (hgood w (List.mem_cons_of_mem _ (List.mem_cons_of_mem _ hw))) (hat w hw)
  have hk' : (Cond.classLink own ik cls).before args s' = true := vx_ot_at hW0 hvm.symm (hgood _ List.mem_cons_self) hk
  have hini' : (Cond.initialized cls).before args s' = true := vx_ot_at hW0 hvm.symm (hgood _ (List.mem_cons_of_mem _ List.mem_cons_self)) hini
  have hU' : vx_Zq Bundle.tN "UNASSIGNED_STACK" Bundle.steD A s' s'.heap := by rw [hhp]; exact vx_Zq.moved hW0.alike (hU.kept hS.2.1)
  have hN' : vx_Zq Bundle.tN "SUPPRESSED_SENTINEL" Bundle.listD A s' s'.heap := by rw [hhp]; exact vx_Zq.moved hW0.alike (hN.kept hS.2.1)
  have h : ∀ w ∈ Bundle.ownAtoms own ic cls names, w.before args s' = true := vx_own hat' (vx_isRefq hU'.1) (vx_isRefq hN'.1) hU'.2.word hN'.2.word
  have hown' : s'.vm.findClass own = some m.cls := by rw [hvm]; exact hown
  have hins : (Cond.instantiable cls 6).before args s' = true := h _ (by simp [Bundle.ownAtoms])
  obtain ⟨vm₁, cX, kX, hfX, hkX, -, -, X₁, st1⟩ := Y.newCold hexec (own := own) (C := cls) (index := ik) (n := 6) hown' hk' hins hini'
    (g := F0 m pc ls rest) rfl (by rw [hb]; exact d0) (Nat.le_refl _) (Nat.le_refl _)
  generalize hT1 : (T.setVm vm₁).pushCell { cls := cX, slots := kX.instanceTypes.map defaultValue, vm := .none } = T1 at X₁ st1
  have hcat : (Value.ref T.heap.size).category = 1 := rfl
  have hcellA : T1.heap[T.heap.size]? = some (freshCell cX kX) := by rw [← hT1]; exact State.heap_pushCell_size _ _
  have d3' : decode c.code (pc + 3) = .ok (.dup, 1) := by rw [hb]; exact d3
  have d4' : decode c.code (pc + 4) = .ok (.ldc_w is, 3) := by rw [hb]; exact d4
  have hstr' : vk_R own is text sa s' := vk_R.warm hW0 hstr
  obtain ⟨U, hsteps, hrun, hend, hW, hsame, ce, hce, hO⟩ := X₁.ctorThrowS hexec htr (own := own) (cls := cls) (names := names) (ic := ic) hown' hcls hnames h (fun x hx => nomatch hx) hfX hkX hcellA (by rw [hhp, hT]; exact Nat.le_refl _) (msg := .ref sa) rfl
    (g := { method := m, pc := pc + 7, locals := ls, stack := .ref sa :: .ref T.heap.size :: .ref T.heap.size :: rest, locked := none }) rfl hsize rfl rfl (rest := rest) rfl
    (by rw [hb]; exact d7) (by rw [hb]; exact d10) hout hRframes (by simp only [List.map_cons, List.sum_cons, hcat]; omega) hlocks
  obtain ⟨f1, f2⟩ := vx_frame hsame
  rw [hhp] at f1 f2
  have hWs : s.WarmedH U.vm := State.WarmedH.trans hW0 hW
  have hcl : s.vm.findClass cls = some ce.cls := by
    have h9 := hO.cls
    rw [hvm] at h9
    exact h9
  have hall : s.sameButNew ({ U with vm := s.vm } : State) locs mc ms := by
    subst hA
    obtain ⟨e1, e2⟩ := hsame
    rw [State.setFrames_setFrames] at e1
    have h2 : (T.setVm s.vm).sameButNew ({ U with vm := s.vm } : State) [] (0 + 1) (0 + 6) := ⟨e1, e2⟩
    have h3 := X.same.trans h2
    rw [List.append_nil] at h3
    exact h3.mono hc hs
  refine ⟨U, ?_, .threw T.heap.size, hrun, hend, Or.inr ⟨T.heap.size, rfl, cls, ce, locs, hx U hWs.alike f1 (fun q hq => f2 q hq (fun z hz => nomatch hz)), hce, hO.vm, hcl, hWs, hall, hf⟩⟩
  refine st1 _ ?_
  show Steps p.tables e below (T1.setTop { method := m, pc := pc + 3, locals := ls, stack := .ref T.heap.size :: rest, locked := none }) _
  jvm_step X₁.here [X₁.here.top, hexec, d3', Value.category]
  exact X₁.ldcStringW hexec (own := own) (text := text) (index := is) (a := sa) hown' hstr'.1 hstr'.2
    (g := { method := m, pc := pc + 4, locals := ls, stack := .ref T.heap.size :: .ref T.heap.size :: rest, locked := none }) rfl d4' _ hsteps
end Ends
section Bodies
variable {l : Launch}
theorem vx_ofW {y : MethodName} {ws ws' : List Cond} {rm : Room} {Pc : Array Value → State → Prop} {Qc : Array Value → State → Outcome → State → Prop} {XC : String → State → State → Prop} {mc ms : Nat} {free : Addr → Prop} {cc : ByteArray} {maxL : Nat} {ret : Option FieldType}
    (hy : plainName y.cls = true) (hw : ws = Cond.code y cc maxL ret :: ws')
    (body : ∀ p e s m args below meth c s₁, BodyLoose p l y (headSpec ws rm) cc maxL ret e s m args below meth c s₁ → c.maxLocals = maxL → (∀ x ∈ c.exceptionTable.toList, False) → Pc args s →
      W p l e (headSpec ws rm).room s m args below meth c s.heap [] 0 0 (vx_MQ below Qc XC args s mc ms free) (entryFrame m args maxL)) : vx_Met l y ws rm Pc Qc XC mc ms free := by
  refine MetFree.of_bodyS (code := cc) (maxLocals := maxL) (ret := ret) hy ?_ ?_
  · intro args s m h hn
    obtain ⟨meth, c, h1, h2, h3, h4, h5, h6, -, -⟩ := Cond.code_spec hn (atoms_spec (ws := ws) h _ (by rw [hw]; exact List.mem_cons_self))
    exact ⟨meth, c, h1, h2, h3, h4, h5, h6⟩
  · intro p e s m args below meth c s₁ B hml hP _
    have hh0 : s₁.heap = s.heap := by rw [B.state]; rfl
    have ht : ∀ x ∈ c.exceptionTable.toList, False := by
      obtain ⟨meth9, c9, h1, h2, -, -, -, -, h7, -⟩ := Cond.code_spec B.named (atoms_spec (ws := ws) B.pre _ (by rw [hw]; exact List.mem_cons_self))
      cases Option.some.inj (h1.symm.trans B.method)
      cases Option.some.inj (h2.symm.trans (Stand.of_body B).code)
      intro x hx
      rw [Array.isEmpty_iff.mp h7] at hx
      cases hx
    obtain ⟨t, a1, o, b1, b2, b3⟩ := body p e s m args below meth c s₁ B hml ht hP s₁ hh0 (Stand.of_body B)
    exact ⟨t, o, a1, b1, b2, b3⟩
/-- the table of a body with handlers -/
theorem vx_table {p : Program} {x y : MethodName} {S : Spec} {cc bytes : ByteArray} {maxL maxL' : Nat} {ret ret' : Option FieldType} {e : Env} {s s₁ : State} {m : MethodId} {args : Array Value} {below : List Frame} {meth : Method} {c : Code} {hh : List (Nat × Nat × Nat × Nat)}
    (B : BodyLoose p l y S cc maxL ret e s m args below meth c s₁) (h : (Cond.codeWith y bytes maxL' ret' hh).before args s = true) : c.exceptionTable.toList = tableOf hh := by
  obtain ⟨m9, meth9, c9, hn9, h1, h2, -, -, h6, -⟩ := Cond.codeWith_spec h
  cases Option.some.inj (hn9.symm.trans B.named)
  cases Option.some.inj (h1.symm.trans B.method)
  cases Option.some.inj (h2.symm.trans (Stand.of_body B).code)
  rw [← h6, table_eq]
end Bodies
end VXA
/-! ===== END ===== -/
/-! ===== BEGIN a static call of a method with an exception table ===== -/
section VXS
variable {p : Program} {l : Launch} {e : Env} {R : Room} {s : State} {m : MethodId} {args : Array Value} {below : List Frame} {meth : Method} {c : Code} {T : State} {H : Heap} {locs : List Loc} {cells slots : Nat}
abbrev vx_CSW (R : Room) (s : State) (args : Array Value) (own : String) (index : Nat) (y : MethodName) (bytes : ByteArray) (maxL : Nat) (ret : Option FieldType) (hh : List (Nat × Nat × Nat × Nat)) (ws : List Cond) (rm : Room) (mc ms n : Nat) : Prop :=
  (rm.cells = mc ∧ rm.slots = ms ∧ rm.frames + 1 ≤ R.frames ∧ 8 + (maxL + 11) + rm.locals ≤ R.locals ∧ (∀ w ∈ ws, ∀ (a' : Array Value) (U : State), s.WarmedH U.vm → w.before a' U = true) ∧ Cond.codeWith y bytes maxL ret hh ∈ ws) ∧
  (Cond.codeWith y bytes maxL ret hh).before args s = true ∧ (Cond.initialized y.cls).before args s = true ∧ (y.cls ≠ "java/lang/invoke/MethodHandle" ∧ y.cls ≠ "java/lang/invoke/VarHandle") ∧
  (∀ sig, parseMethodDescriptor y.desc = some sig → n = sig.parameters.length) ∧ (Cond.methodLink own index y).before args s = true ∧ (Cond.static y).before args s = true
theorem vx_cwSW {own : String} {index maxL mc ms : Nat} {y : MethodName} {bytes : ByteArray} {ret : Option FieldType} {hh : List (Nat × Nat × Nat × Nat)} {Ts ws ws' : List Cond} {rm : Room} (n : Nat) (ht : ∀ w ∈ Ts, w.before args s = true) (hT : GoodIn Ts (va_wsS own index y ws)) (hw : ws = Cond.codeWith y bytes maxL ret hh :: ws') (hrc : rm.cells = mc) (hrs : rm.slots = ms)
    (hd : y.cls ≠ "java/lang/invoke/MethodHandle" ∧ y.cls ≠ "java/lang/invoke/VarHandle" ∧ (parseMethodDescriptor y.desc).map (fun d => d.parameters.length) = some n) (hR : rm.frames + 1 ≤ R.frames ∧ 8 + (maxL + 11) + rm.locals ≤ R.locals) :
    vx_CSW R s args own index y bytes maxL ret hh ws rm mc ms n := by
  have ok : ∀ w ∈ va_wsS own index y ws, w.before args s = true := fun w h => ht w (hT w h).1
  have hG : GoodIn Ts ws := fun w h => hT w (by unfold va_wsS; exact List.mem_append_right _ h)
  have hc : Cond.codeWith y bytes maxL ret hh ∈ ws := by rw [hw]; exact List.mem_cons_self
  refine ⟨⟨hrc, hrs, hR.1, hR.2, pay_in ht hG, hc⟩, ht _ (hG _ hc).1, ok _ (by simp [va_wsS]), ⟨hd.1, hd.2.1⟩, fun sig h => ?_, ok _ (by simp [va_wsS]), ok _ (by simp [va_wsS])⟩
  have h2 := hd.2.2
  rw [h] at h2
  exact (Option.some.inj h2).symm
theorem vx_callSW (X : Stand p l e R s m args below meth c T locs cells slots) (hexec : p.tables.exec = Jvm.exec) {own : String} {index : Nat} {y : MethodName} {bytes : ByteArray} {maxL : Nat} {ret : Option FieldType} {hh : List (Nat × Nat × Nat × Nat)}
    (hown : s.vm.findClass own = some m.cls) (hlink : (Cond.methodLink own index y).before args s = true) (hstat : (Cond.static y).before args s = true) (hinit : (Cond.initialized y.cls).before args s = true)
    (hcode : (Cond.codeWith y bytes maxL ret hh).before args s = true) (hy : y.cls ≠ "java/lang/invoke/MethodHandle" ∧ y.cls ≠ "java/lang/invoke/VarHandle")
    {W9 : Nat} {Pre : Pt → Array Value → Prop} {Post : Pt → Array Value → Option Value → Pt → Prop} (hK : Back l R p e below s args y 3 W9 Pre Post)
    {g : JFrame} (hg : g.method = m) (hsize : g.locals.size = c.maxLocals) {argsL rest : List Value} (hlen : ∀ sig, parseMethodDescriptor y.desc = some sig → argsL.length = sig.parameters.length)
    (hstack : g.stack = argsL.reverse ++ rest) (hW : 2 * g.monitorRoom + (rest.map fun v => v.category).sum ≤ W9) (hdg : decode c.code g.pc = .ok (.invokestatic index, 3))
    (hpre : ∀ vm₁, s.WarmedH vm₁ → Pre ⟨T.setVm vm₁, locs, cells, slots⟩ argsL.toArray) :
    ∃ (v : Option Value) (vm₁ : Vm) (B : Pt), s.WarmedH vm₁ ∧ Stand p l e R s m args below meth c B.U B.locs B.cells B.slots ∧ Post ⟨T.setVm vm₁, locs, cells, slots⟩ argsL.toArray v B ∧
      ∀ target, Steps p.tables e below (B.U.setTop { g with pc := g.pc + 3, stack := v.toList ++ rest }) target → Steps p.tables e below (T.setTop g) target := by
  obtain ⟨mk, methM, cM, hnamed, hmethM, -, -, -, -, -, -, hsigM⟩ := Cond.codeWith_spec hcode
  have hstatic : methM.isStatic = true := Cond.static_spec hnamed hmethM hstat
  obtain ⟨kP, hkP, -⟩ := className_of_methodNamed hnamed
  have hinitP : kP.init = .initialized := Cond.initialized_spec (findClass_of_methodNamed hnamed) hkP hinit
  obtain ⟨vm₁, X₁, hstep₁⟩ := X.invokestatic hexec hown hlink hnamed hmethM hstatic hkP hinitP hy (g := g) hg (argsL := argsL) (rest := rest) (hlen _ hsigM) hstack hdg
  obtain ⟨v, B, X', hpost, hsteps⟩ := hK m meth c ⟨T.setVm vm₁, locs, cells, slots⟩ { g with stack := rest } (.invokestatic index) mk argsL.toArray X₁ hg hsize hdg hW (X₁.named hnamed) (hpre vm₁ X₁.warmed)
  exact ⟨v, vm₁, B, X₁.warmed, X', hpost, fun target h => hstep₁ _ fun acts => by rw [doInvoke_state]; exact hsteps.trans h⟩
theorem vx_runSW {y : MethodName} {bytes cc : ByteArray} {maxL nL mc ms n index : Nat} {ret : Option FieldType} {hh : List (Nat × Nat × Nat × Nat)} {ws : List Cond} {rm : Room} {Pc : Array Value → State → Prop} {Qc : Array Value → State → Outcome → State → Prop} {free : Addr → Prop} {Ts : List Cond} {own : String} {As rest : List Value} {g : JFrame}
    (S : CallFix p m c cc nL s args Ts own) (hM : Met l y ws rm Pc Qc mc ms free) (cw : vx_CSW R s args own index y bytes maxL ret hh ws rm mc ms n) (hp : PreS s H Pc As)
    (hg : g.method = m) (hn : As.length = n) (hsize : g.locals.size = nL) (hstack : g.stack = As.reverse ++ rest) (hW : 2 * g.monitorRoom + (rest.map fun v => v.category).sum ≤ 8) (hdg : decode cc g.pc = .ok (.invokestatic index, 3)) (hf : cells + mc ≤ R.cells ∧ slots + ms ≤ R.slots) :
    va_Run p l e R s m args below meth c H locs cells slots mc ms g rest (Qc As.toArray) (free) := by
  obtain ⟨⟨hrc, hrs, hfr, hlo, hws, hcw⟩, hcode, hini, hy, hlen, hl, hstt⟩ := cw
  have hK : Back l R p e below s args y 3 8 (PreOf R mc ms Pc) (PostOf Qc mc ms free) := va_backW (hh := hh) (bytes := bytes) (maxL := maxL) (ret := ret) hM hp.1 hrc hrs hfr hlo hws hcw (fun a' U hW => word_at hW (Or.inl (by first | rfl | simp [Cond.onTables, Cond.keeps, Cond.steady])) hini)
  obtain ⟨hx, hb, hml, ho, -⟩ := S
  intro T hT X
  obtain ⟨v, vm₁, ⟨U', l2, c2, s2⟩, hW₁, X', ⟨g', mk, t, L, e1, e2, hq, h1, hL, h2, h3⟩, st⟩ := vx_callSW X hx (hh := hh) (bytes := bytes) (maxL := maxL) (ret := ret) ho hl hstt hini hcode hy hK hg (hsize.trans hml.symm) (argsL := As) (rest := rest) (fun sig h => hn.trans (hlen sig h)) hstack hW (by rw [hb]; exact hdg)
    (fun vm₁ hW₁ => ⟨hf.1, hf.2, hp.2 (T.setVm vm₁) hT hW₁⟩)
  dsimp only [Pt.U, Pt.locs, Pt.cells, Pt.slots] at X' e1 e2 h1 h2 h3 st
  subst h1; subst h2; subst h3
  exact ⟨v, (T.setVm vm₁).calling g' mk As.toArray, t, U', L, hT, X', hL, e1, e2, hq, st⟩
/-- not caught here, past rows that name other classes: it goes on to the caller -/
theorem vx_outP {p : Program} {l : Launch} {e : Env} {R : Room} {s : State} {m : MethodId} {args : Array Value} {below : List Frame} {meth : Method} {c : Code} {H : Heap} {locs : List Loc} {cells slots : Nat} {free : Addr → Prop} {ls : Array Slot} {rest : List Value} {Qc : Array Value → State → Outcome → State → Prop} {XC : String → State → State → Prop}
    {pc : Nat} {own E : String} {ce : Cell} {q : Addr} {mc ms : Nat} (hown : s.vm.findClass own = some m.cls) (hlocks : meth.locks = false)
    (hpass : ∀ z ∈ c.exceptionTable.toList, covers z pc = false ∨ (z.catchType ≠ 0 ∧ ∃ nm : String, (Cond.classLink own z.catchType nm).before args s = true ∧ va_Nc E nm s)) (hcell : H[q]? = some ce) (hv : ce.vm = .none) (hcl : s.vm.findClass E = some ce.cls)
    (hx : ∀ t : State, t.heap = H → s.vm.Alike t.vm → XC E s t) (hf : ∀ z ∈ locs, free z.base) (hc : cells ≤ mc) (hs : slots ≤ ms) :
    vx_W p l e R s m args below meth c H locs cells slots (vx_MQ below Qc XC args s mc ms free) (F0 m pc ls rest) q := by
  intro T hT X
  have hpl : e.platform.magicAccessors = ({} : Platform).magicAccessors := by rw [X.admits.platform]
  obtain ⟨vm', hW', X', st⟩ := X.outThrough hlocks q (g := F0 m pc ls rest) rfl rfl rfl (cell := ce) (by rw [hT]; exact hcell) (by rw [hv]; rfl)
    (by obtain ⟨k9, h9, -⟩ := Vm.findClass_spec hcl; exact ⟨k9, h9⟩) (fun z hz => by
      rcases hpass z hz with h | ⟨hz0, nm, hl1, hn1⟩
      · exact Or.inl h
      · obtain ⟨c6, hc6, hcl6⟩ := Cond.classLink_spec hown hl1 e.platform hpl
        obtain ⟨a8, b8, h1, h2, h3⟩ := hn1
        cases Option.some.inj (h1.symm.trans hcl)
        cases Option.some.inj (h2.symm.trans hc6)
        exact Or.inr ⟨hz0, _, hcl6, h3⟩)
  obtain ⟨g₀, hfr⟩ := X'.frames_eq
  have hcell9 : ((T.setVm vm').setFrames (.throwing q :: below)).heap[q]? = some ce := by
    show T.heap[q]? = some ce
    rw [hT]; exact hcell
  have hend : Ended ((T.setVm vm').setFrames (.throwing q :: below)) below (.threw q) := State.frames_setFrames _ (State.cur_lt_of_frames hfr)
  refine ⟨(T.setVm vm').setFrames (.throwing q :: below), ?_, .threw q, X'.here.running, hend, Or.inr ⟨q, rfl, E, ce, locs, hx _ hT (X'.ends _).1.alike, hcell9, hv, hcl, (X'.ends _).1, (X'.ends _).2.mono hc hs, hf⟩⟩
  rw [X.pushThrowing_eq]
  exact st
/-- a thing of a world lies in the heap -/
theorem vx_lt {D : va_G} {cl : List vw_C} {ws : va_W} {H1 : Heap} (h : va_P D cl ws H1) {k : Nat} {q : Nat × va_E} (hk : ws[k]? = some q) : q.1 < H1.size := (h k q hk).lt
end VXS
/-! ===== END ===== -/
/-! ===== BEGIN methods with a table of their own: called by a name, returning or throwing ===== -/
section VXH
/-! vx_backW, vx_callVX, vx_callSX, vx_callVW, vx_runVW, vx_runVX, vx_runSX, vx_ofWH follow the same proofs as their sisters above (Free/Laws.lean, Shelf42/LK1.lean); vx_outP calls Shelf42/NT130.lean (outThrough). -/
section
variable {l : Launch} {R : Room} {p : Program} {e : Env} {below : List Frame} {s : State} {sargs : Array Value} {y : MethodName} {len W9 : Nat}
theorem vx_backW {ws : List Cond} {rm : Room} {Pc : Array Value → State → Prop} {Qc : Array Value → State → Outcome → State → Prop} {XC : String → State → State → Prop} {mc ms : Nat} {free : Addr → Prop} {bytes : ByteArray} {maxL : Nat} {ret : Option FieldType} {hh : List (Nat × Nat × Nat × Nat)}
    (hM : vx_Met l y ws rm Pc Qc XC mc ms free) (hblind : FrameBlind Pc) (hrc : rm.cells = mc) (hrs : rm.slots = ms)
    (hframes : rm.frames + 1 ≤ R.frames) (hlocals : W9 + (maxL + 11) + rm.locals ≤ R.locals)
    (hws : ∀ w ∈ ws, ∀ a' U, s.WarmedH U.vm → w.before a' U = true) (hcode : Cond.codeWith y bytes maxL ret hh ∈ ws) (hinit : ∀ a' U, s.WarmedH U.vm → (Cond.initialized y.cls).before a' U = true) :
    vx_Back l R p e below s sargs y len W9 (PreOf R mc ms Pc) (PostOf Qc mc ms free) (vx_Post XC mc ms free) := by
  intro m meth c A g ig mk a X hg hsize hdg hW hn hp
  have h1 : (headSpec ws rm).pre.before a A.U = true := atoms_intro fun w hw => hws w hw _ _ X.warmed
  have h2 : (Cond.codeWith y bytes maxL ret hh).before a A.U = true := hws _ hcode _ _ X.warmed
  have h3 : (Cond.initialized y.cls).before a A.U = true := hinit _ _ X.warmed
  have h4 : A.cells + (headSpec ws rm).room.cells ≤ R.cells := by rw [show (headSpec ws rm).room.cells = mc from hrc]; exact hp.1
  have h5 : A.slots + (headSpec ws rm).room.slots ≤ R.slots := by rw [show (headSpec ws rm).room.slots = ms from hrs]; exact hp.2.1
  have hPc : Pc a (A.U.calling g mk a) := hblind _ _ _ _ hp.2.2
  obtain ⟨U, Ls, c0, s0⟩ := A
  dsimp only [Pt.U, Pt.locs, Pt.cells, Pt.slots] at h1 h2 h3 h4 h5 X hn hPc ⊢
  obtain ⟨m9, methY, cY, hn9, hmY, hcY, -, hlY, -⟩ := Cond.codeWith_spec h2
  cases Option.some.inj (hn9.symm.trans hn)
  obtain ⟨kY, hkY, -⟩ := className_of_methodNamed hn
  have hinitY : kY.init = .initialized := Cond.initialized_spec (findClass_of_methodNamed hn) hkY h3
  have h : At U g.method c below := by rw [hg]; exact X.here
  have hlocals9 : W9 + (maxL + 11) + (headSpec ws rm).room.locals ≤ R.locals := hlocals
  have happ : (headSpec ws rm).appliesLoose y e.platform (U.calling g mk a) = true :=
    Spec.appliesLoose_calling (g := g) h hdg hn hkY hinitY
      (X.room_calling (g := g) (R' := (headSpec ws rm).room) hsize hmY hcY hframes (by rw [hlY]; omega) h4 h5) h1
  obtain ⟨mid, hmid⟩ := h.above
  have hfr : (U.setTop g).frames = (.java g :: mid) ++ below := by rw [State.frames_setTop' g h.top, hmid]; rfl
  obtain ⟨o, s₂, hsteps, -, hend, hq⟩ := Steps.callFree hM p X.admits X.cas X.clock (acts := []) hfr happ hPc trivial
  have hq' : vx_Q Qc XC mc ms free a (U.calling g mk a) o s₂ := hq
  rw [State.frames_setTop' g h.top] at hend
  obtain ⟨g₀, hg0⟩ := Option.isSome_iff_exists.mp h.top
  obtain ⟨r, hr⟩ := State.topJava?_eq_some.mp hg0
  have hr' : (({ U with heap := s₂.heap, slotsUsed := s₂.slotsUsed } : State).setVm s₂.vm).frames = .java g₀ :: r := hr
  rcases hq' with ⟨hqc, L, hfe, hL⟩ | ⟨q, rfl, E, ce, L, hx, hce, hcv, hcl, hW₂, hsm, hL⟩
  · obtain ⟨⟨v, rfl⟩, hW₂, e2, q2, q3, q4, q5, q6⟩ := id hfe
    have e3 : s₂ = ({ (U.calling g mk a).setFrames s₂.frames with heap := s₂.heap, slotsUsed := s₂.slotsUsed } : State).setVm s₂.vm := by
      have : s₂ = ({ s₂ with vm := (U.calling g mk a).vm } : State).setVm s₂.vm := rfl
      rw [e2] at this
      exact this
    obtain ⟨c₂, i₂, len₂, hc₂, hd₂, hf₂⟩ := hend
    have hW' : U.WarmedH s₂.vm := hW₂
    have hcc : c₂ = c := by
      have h1 : s₂.code? g.method = U.code? g.method := by
        rw [State.code?_eq, State.code?_eq, hW'.alike.method?]
      exact Option.some.inj (hc₂.symm.trans (h1.trans h.code))
    subst hcc
    have hlen : len₂ = len := by rw [hdg] at hd₂; cases hd₂; rfl
    subst hlen
    have hs₂ : s₂ = (({ U with heap := s₂.heap, slotsUsed := s₂.slotsUsed } : State).setVm s₂.vm).setTop { g with pc := g.pc + len₂, stack := v.toList ++ g.stack } := by
      refine e3.trans ?_
      rw [hf₂, State.calling_eq h.top, State.setFrames_setFrames, State.setTop_of_frames _ hr', hr]
      rfl
    have hsame : U.sameButNew ({ U with heap := s₂.heap, slotsUsed := s₂.slotsUsed } : State) L mc ms := by
      refine ⟨?_, q2, q3, q4, q5, q6⟩
      obtain ⟨t, ht, -⟩ := State.frames_cons hr
      show ({ U with heap := s₂.heap, slotsUsed := s₂.slotsUsed } : State) = { U.setFrames U.frames with heap := s₂.heap, slotsUsed := s₂.slotsUsed }
      rw [State.setFrames_self ht]
    subst hg
    refine Or.inl ⟨v, ⟨(({ U with heap := s₂.heap, slotsUsed := s₂.slotsUsed } : State).setVm s₂.vm), Ls ++ L, c0 + mc, s0 + ms⟩,
      ⟨X.admits, X.cas, X.clock, X.frames, X.room, X.hears, X.method, X.code, (X.here.setHeapUsed s₂.heap s₂.slotsUsed).setVm hW'.alike, X.tail, State.WarmedH.trans X.warmed hW', X.limits, X.bytes, X.same.trans (hsame.setVm s.vm)⟩,
      ⟨g, mk, s₂, L, rfl, rfl, hqc, rfl, hL, rfl, rfl⟩, ?_⟩
    show Steps p.tables e below _ ((({ U with heap := s₂.heap, slotsUsed := s₂.slotsUsed } : State).setVm s₂.vm).setTop { g with pc := g.pc + len₂, stack := v.toList ++ g.stack })
    rw [← hs₂]
    exact hsteps
  · obtain ⟨e2, q2, q3, q4, q5, q6⟩ := id hsm
    have e3 : s₂ = ({ (U.calling g mk a).setFrames s₂.frames with heap := s₂.heap, slotsUsed := s₂.slotsUsed } : State).setVm s₂.vm := by
      have : s₂ = ({ s₂ with vm := (U.calling g mk a).vm } : State).setVm s₂.vm := rfl
      rw [e2] at this
      exact this
    have hf₂ : s₂.frames = .throwing q :: .java g :: U.frames.tail := hend
    have hW' : U.WarmedH s₂.vm := hW₂
    have hs₂ : s₂ = ((({ U with heap := s₂.heap, slotsUsed := s₂.slotsUsed } : State).setVm s₂.vm).setTop g).pushFrame (.throwing q) := by
      refine e3.trans ?_
      rw [hf₂, State.calling_eq h.top, State.setFrames_setFrames, State.pushFrame, State.frames_setTop _ hr', State.setTop_of_frames _ hr', State.setFrames_setFrames, hr]
      rfl
    have hsame : U.sameButNew ({ U with heap := s₂.heap, slotsUsed := s₂.slotsUsed } : State) L mc ms := by
      refine ⟨?_, q2, q3, q4, q5, q6⟩
      obtain ⟨t, ht, -⟩ := State.frames_cons hr
      show ({ U with heap := s₂.heap, slotsUsed := s₂.slotsUsed } : State) = { U.setFrames U.frames with heap := s₂.heap, slotsUsed := s₂.slotsUsed }
      rw [State.setFrames_self ht]
    subst hg
    refine Or.inr ⟨q, ⟨(({ U with heap := s₂.heap, slotsUsed := s₂.slotsUsed } : State).setVm s₂.vm), Ls ++ L, c0 + mc, s0 + ms⟩,
      ⟨X.admits, X.cas, X.clock, X.frames, X.room, X.hears, X.method, X.code, (X.here.setHeapUsed s₂.heap s₂.slotsUsed).setVm hW'.alike, X.tail, State.WarmedH.trans X.warmed hW', X.limits, X.bytes, X.same.trans (hsame.setVm s.vm)⟩,
      ⟨g, mk, s₂, L, E, ce, rfl, rfl, hx, hce, hcv, hcl, rfl, hL, rfl, rfl⟩, ?_⟩
    show Steps p.tables e below _ (((({ U with heap := s₂.heap, slotsUsed := s₂.slotsUsed } : State).setVm s₂.vm).setTop g).pushFrame (.throwing q))
    rw [← hs₂]
    exact hsteps
end
variable {p : Program} {l : Launch} {e : Env} {R : Room} {s : State} {m : MethodId} {args : Array Value} {below : List Frame} {meth : Method} {c : Code} {T : State} {H : Heap} {locs : List Loc} {cells slots : Nat}
theorem vx_callVX (X : Stand p l e R s m args below meth c T locs cells slots) (hexec : p.tables.exec = Jvm.exec) {own C : String} {index : Nat} {y : MethodName} {bytes : ByteArray} {maxL : Nat} {ret : Option FieldType} {hh : List (Nat × Nat × Nat × Nat)}
    (hown : s.vm.findClass own = some m.cls) (hlink : (Cond.methodLink own index y).before args s = true) (hinst : (Cond.instanceMethod y).before args s = true) (hsel : (Cond.selects C y y).before args s = true)
    (hcode : (Cond.codeWith y bytes maxL ret hh).before args s = true) (hy : y.cls ≠ "java/lang/invoke/MethodHandle" ∧ y.cls ≠ "java/lang/invoke/VarHandle")
    {W9 : Nat} {Pre : Pt → Array Value → Prop} {Post : Pt → Array Value → Option Value → Pt → Prop} {PostX : Pt → Array Value → Addr → Pt → Prop} (hK : vx_Back l R p e below s args y 3 W9 Pre Post PostX)
    {b : Addr} {cellB : Cell} (hcell : T.heap[b]? = some cellB) (hobj : cellB.vm.isStatics = false) (hcls : s.vm.findClass C = some cellB.cls)
    {g : JFrame} (hg : g.method = m) (hsize : g.locals.size = c.maxLocals) {argsL rest : List Value} (hlen : ∀ sig, parseMethodDescriptor y.desc = some sig → argsL.length = sig.parameters.length)
    (hstack : g.stack = argsL.reverse ++ .ref b :: rest) (hW : 2 * g.monitorRoom + (rest.map fun v => v.category).sum ≤ W9) (hdg : decode c.code g.pc = .ok (.invokevirtual index, 3))
    (hpre : ∀ vm₁, s.WarmedH vm₁ → Pre ⟨T.setVm vm₁, locs, cells, slots⟩ (Value.ref b :: argsL).toArray) :
    (∃ (v : Option Value) (vm₁ : Vm) (B : Pt), s.WarmedH vm₁ ∧ Stand p l e R s m args below meth c B.U B.locs B.cells B.slots ∧ Post ⟨T.setVm vm₁, locs, cells, slots⟩ (Value.ref b :: argsL).toArray v B ∧
      ∀ target, Steps p.tables e below (B.U.setTop { g with pc := g.pc + 3, stack := v.toList ++ rest }) target → Steps p.tables e below (T.setTop g) target) ∨
    (∃ (q : Addr) (vm₁ : Vm) (B : Pt), s.WarmedH vm₁ ∧ Stand p l e R s m args below meth c B.U B.locs B.cells B.slots ∧ PostX ⟨T.setVm vm₁, locs, cells, slots⟩ (Value.ref b :: argsL).toArray q B ∧
      Steps p.tables e below (T.setTop g) ((B.U.setTop { g with stack := rest }).pushFrame (.throwing q))) := by
  obtain ⟨mk, methM, hnamed, hmethM, hstM, habM⟩ := Cond.instanceMethod_spec hinst
  obtain ⟨m8, methM', cM, hn8, hmethM', -, -, -, -, -, -, hsigM⟩ := Cond.codeWith_spec hcode
  cases Option.some.inj (hn8.symm.trans hnamed)
  cases hmethM.symm.trans hmethM'
  obtain ⟨c2, r2, m2, q1, q2, q3, q4, kP, hkP, hkPi⟩ := Cond.selects_spec hsel
  cases hcls.symm.trans q1
  cases (State.methodFound?_of_named hnamed hy).symm.trans q2
  cases hnamed.symm.trans q3
  have hselP : selectMethod e.platform s.vm cellB.cls mk = .method mk := by rw [Launch.admits_selectMethod X.admits]; exact q4
  obtain ⟨vm₁, X₁, hstep₁⟩ := X.invokevirtual hexec hown hlink hnamed hmethM hstM hkP hkPi hy (a := b) (cell := cellB) hcell
    (fun z h => by rw [h] at hobj; cases hobj) hselP hmethM habM hkP hkPi (g := g) hg (argsL := argsL) (rest := rest) (hlen _ hsigM) hstack hdg
  rcases hK m meth c ⟨T.setVm vm₁, locs, cells, slots⟩ { g with stack := rest } (.invokevirtual index) mk (Value.ref b :: argsL).toArray X₁ hg hsize hdg hW (X₁.named hnamed) (hpre vm₁ X₁.warmed) with ⟨v, B, X', hpost, hsteps⟩ | ⟨q, B, X', hpost, hsteps⟩
  · exact Or.inl ⟨v, vm₁, B, X₁.warmed, X', hpost, fun target h => hstep₁ _ fun acts => by rw [doInvoke_state]; exact hsteps.trans h⟩
  · exact Or.inr ⟨q, vm₁, B, X₁.warmed, X', hpost, hstep₁ _ fun acts => by rw [doInvoke_state]; exact hsteps⟩
theorem vx_callSX (X : Stand p l e R s m args below meth c T locs cells slots) (hexec : p.tables.exec = Jvm.exec) {own : String} {index : Nat} {y : MethodName} {bytes : ByteArray} {maxL : Nat} {ret : Option FieldType} {hh : List (Nat × Nat × Nat × Nat)}
    (hown : s.vm.findClass own = some m.cls) (hlink : (Cond.methodLink own index y).before args s = true) (hstat : (Cond.static y).before args s = true) (hinit : (Cond.initialized y.cls).before args s = true)
    (hcode : (Cond.codeWith y bytes maxL ret hh).before args s = true) (hy : y.cls ≠ "java/lang/invoke/MethodHandle" ∧ y.cls ≠ "java/lang/invoke/VarHandle")
    {W9 : Nat} {Pre : Pt → Array Value → Prop} {Post : Pt → Array Value → Option Value → Pt → Prop} {PostX : Pt → Array Value → Addr → Pt → Prop} (hK : vx_Back l R p e below s args y 3 W9 Pre Post PostX)
    {g : JFrame} (hg : g.method = m) (hsize : g.locals.size = c.maxLocals) {argsL rest : List Value} (hlen : ∀ sig, parseMethodDescriptor y.desc = some sig → argsL.length = sig.parameters.length)
    (hstack : g.stack = argsL.reverse ++ rest) (hW : 2 * g.monitorRoom + (rest.map fun v => v.category).sum ≤ W9) (hdg : decode c.code g.pc = .ok (.invokestatic index, 3))
    (hpre : ∀ vm₁, s.WarmedH vm₁ → Pre ⟨T.setVm vm₁, locs, cells, slots⟩ argsL.toArray) :
    (∃ (v : Option Value) (vm₁ : Vm) (B : Pt), s.WarmedH vm₁ ∧ Stand p l e R s m args below meth c B.U B.locs B.cells B.slots ∧ Post ⟨T.setVm vm₁, locs, cells, slots⟩ argsL.toArray v B ∧
      ∀ target, Steps p.tables e below (B.U.setTop { g with pc := g.pc + 3, stack := v.toList ++ rest }) target → Steps p.tables e below (T.setTop g) target) ∨
    (∃ (q : Addr) (vm₁ : Vm) (B : Pt), s.WarmedH vm₁ ∧ Stand p l e R s m args below meth c B.U B.locs B.cells B.slots ∧ PostX ⟨T.setVm vm₁, locs, cells, slots⟩ argsL.toArray q B ∧
      Steps p.tables e below (T.setTop g) ((B.U.setTop { g with stack := rest }).pushFrame (.throwing q))) := by
  obtain ⟨mk, methM, cM, hnamed, hmethM, -, -, -, -, -, -, hsigM⟩ := Cond.codeWith_spec hcode
  have hstatic : methM.isStatic = true := Cond.static_spec hnamed hmethM hstat
  obtain ⟨kP, hkP, -⟩ := className_of_methodNamed hnamed
  have hinitP : kP.init = .initialized := Cond.initialized_spec (findClass_of_methodNamed hnamed) hkP hinit
  obtain ⟨vm₁, X₁, hstep₁⟩ := X.invokestatic hexec hown hlink hnamed hmethM hstatic hkP hinitP hy (g := g) hg (argsL := argsL) (rest := rest) (hlen _ hsigM) hstack hdg
  rcases hK m meth c ⟨T.setVm vm₁, locs, cells, slots⟩ { g with stack := rest } (.invokestatic index) mk argsL.toArray X₁ hg hsize hdg hW (X₁.named hnamed) (hpre vm₁ X₁.warmed) with ⟨v, B, X', hpost, hsteps⟩ | ⟨q, B, X', hpost, hsteps⟩
  · exact Or.inl ⟨v, vm₁, B, X₁.warmed, X', hpost, fun target h => hstep₁ _ fun acts => by rw [doInvoke_state]; exact hsteps.trans h⟩
  · exact Or.inr ⟨q, vm₁, B, X₁.warmed, X', hpost, hstep₁ _ fun acts => by rw [doInvoke_state]; exact hsteps⟩
theorem vx_callVW (X : Stand p l e R s m args below meth c T locs cells slots) (hexec : p.tables.exec = Jvm.exec) {own C : String} {index : Nat} {y : MethodName} {bytes : ByteArray} {maxL : Nat} {ret : Option FieldType} {hh : List (Nat × Nat × Nat × Nat)}
    (hown : s.vm.findClass own = some m.cls) (hlink : (Cond.methodLink own index y).before args s = true) (hinst : (Cond.instanceMethod y).before args s = true) (hsel : (Cond.selects C y y).before args s = true)
    (hcode : (Cond.codeWith y bytes maxL ret hh).before args s = true) (hy : y.cls ≠ "java/lang/invoke/MethodHandle" ∧ y.cls ≠ "java/lang/invoke/VarHandle")
    {W9 : Nat} {Pre : Pt → Array Value → Prop} {Post : Pt → Array Value → Option Value → Pt → Prop} (hK : Back l R p e below s args y 3 W9 Pre Post)
    {b : Addr} {cellB : Cell} (hcell : T.heap[b]? = some cellB) (hobj : cellB.vm.isStatics = false) (hcls : s.vm.findClass C = some cellB.cls)
    {g : JFrame} (hg : g.method = m) (hsize : g.locals.size = c.maxLocals) {argsL rest : List Value} (hlen : ∀ sig, parseMethodDescriptor y.desc = some sig → argsL.length = sig.parameters.length)
    (hstack : g.stack = argsL.reverse ++ .ref b :: rest) (hW : 2 * g.monitorRoom + (rest.map fun v => v.category).sum ≤ W9) (hdg : decode c.code g.pc = .ok (.invokevirtual index, 3))
    (hpre : ∀ vm₁, s.WarmedH vm₁ → Pre ⟨T.setVm vm₁, locs, cells, slots⟩ (Value.ref b :: argsL).toArray) :
    ∃ (v : Option Value) (vm₁ : Vm) (B : Pt), s.WarmedH vm₁ ∧ Stand p l e R s m args below meth c B.U B.locs B.cells B.slots ∧ Post ⟨T.setVm vm₁, locs, cells, slots⟩ (Value.ref b :: argsL).toArray v B ∧
      ∀ target, Steps p.tables e below (B.U.setTop { g with pc := g.pc + 3, stack := v.toList ++ rest }) target → Steps p.tables e below (T.setTop g) target := by
  obtain ⟨mk, methM, hnamed, hmethM, hstM, habM⟩ := Cond.instanceMethod_spec hinst
  obtain ⟨m8, methM', cM, hn8, hmethM', -, -, -, -, -, -, hsigM⟩ := Cond.codeWith_spec hcode
  cases Option.some.inj (hn8.symm.trans hnamed)
  cases hmethM.symm.trans hmethM'
  obtain ⟨c2, r2, m2, q1, q2, q3, q4, kP, hkP, hkPi⟩ := Cond.selects_spec hsel
  cases hcls.symm.trans q1
  cases (State.methodFound?_of_named hnamed hy).symm.trans q2
  cases hnamed.symm.trans q3
  have hselP : selectMethod e.platform s.vm cellB.cls mk = .method mk := by rw [Launch.admits_selectMethod X.admits]; exact q4
  obtain ⟨vm₁, X₁, hstep₁⟩ := X.invokevirtual hexec hown hlink hnamed hmethM hstM hkP hkPi hy (a := b) (cell := cellB) hcell
    (fun z h => by rw [h] at hobj; cases hobj) hselP hmethM habM hkP hkPi (g := g) hg (argsL := argsL) (rest := rest) (hlen _ hsigM) hstack hdg
  obtain ⟨v, B, X', hpost, hsteps⟩ := hK m meth c ⟨T.setVm vm₁, locs, cells, slots⟩ { g with stack := rest } (.invokevirtual index) mk (Value.ref b :: argsL).toArray X₁ hg hsize hdg hW (X₁.named hnamed) (hpre vm₁ X₁.warmed)
  exact ⟨v, vm₁, B, X₁.warmed, X', hpost, fun target h => hstep₁ _ fun acts => by rw [doInvoke_state]; exact hsteps.trans h⟩
abbrev vx_CVW (R : Room) (s : State) (args : Array Value) (own C : String) (index : Nat) (y : MethodName) (bytes : ByteArray) (maxL : Nat) (ret : Option FieldType) (hh : List (Nat × Nat × Nat × Nat)) (ws : List Cond) (rm : Room) (mc ms n : Nat) : Prop :=
  (rm.cells = mc ∧ rm.slots = ms ∧ rm.frames + 1 ≤ R.frames ∧ 8 + (maxL + 11) + rm.locals ≤ R.locals ∧ (∀ w ∈ ws, ∀ (a' : Array Value) (U : State), s.WarmedH U.vm → w.before a' U = true) ∧ Cond.codeWith y bytes maxL ret hh ∈ ws) ∧
  (Cond.codeWith y bytes maxL ret hh).before args s = true ∧ (Cond.initialized y.cls).before args s = true ∧ (y.cls ≠ "java/lang/invoke/MethodHandle" ∧ y.cls ≠ "java/lang/invoke/VarHandle") ∧
  (∀ sig, parseMethodDescriptor y.desc = some sig → n = sig.parameters.length) ∧ (Cond.methodLink own index y).before args s = true ∧ (Cond.instanceMethod y).before args s = true ∧ (Cond.selects C y y).before args s = true
theorem vx_cwVW {own C : String} {index maxL mc ms : Nat} {y : MethodName} {bytes : ByteArray} {ret : Option FieldType} {hh : List (Nat × Nat × Nat × Nat)} {Ts ws ws' : List Cond} {rm : Room} (n : Nat) (ht : ∀ w ∈ Ts, w.before args s = true) (hT : GoodIn Ts (wsV own index C y ws)) (hw : ws = Cond.codeWith y bytes maxL ret hh :: ws') (hrc : rm.cells = mc) (hrs : rm.slots = ms)
    (hd : y.cls = C ∧ y.cls ≠ "java/lang/invoke/MethodHandle" ∧ y.cls ≠ "java/lang/invoke/VarHandle" ∧ (parseMethodDescriptor y.desc).map (fun d => d.parameters.length) = some n) (hR : rm.frames + 1 ≤ R.frames ∧ 8 + (maxL + 11) + rm.locals ≤ R.locals) :
    vx_CVW R s args own C index y bytes maxL ret hh ws rm mc ms n := by
  obtain ⟨hC, hd⟩ := hd
  subst hC
  have ok : ∀ w ∈ wsV own index y.cls y ws, w.before args s = true := fun w h => ht w (hT w h).1
  have hG : GoodIn Ts ws := fun w h => hT w (by unfold wsV; exact List.mem_append_right _ h)
  have hc : Cond.codeWith y bytes maxL ret hh ∈ ws := by rw [hw]; exact List.mem_cons_self
  refine ⟨⟨hrc, hrs, hR.1, hR.2, pay_in ht hG, hc⟩, ht _ (hG _ hc).1, ok _ (by simp [wsV]), ⟨hd.1, hd.2.1⟩, fun sig h => ?_, ok _ (by simp [wsV]), ok _ (by simp [wsV]), ok _ (by simp [wsV])⟩
  have h2 := hd.2.2
  rw [h] at h2
  exact (Option.some.inj h2).symm
theorem vx_runVW {y : MethodName} {bytes cc : ByteArray} {maxL nL mc ms n index : Nat} {ret : Option FieldType} {hh : List (Nat × Nat × Nat × Nat)} {ws : List Cond} {rm : Room} {Pc : Array Value → State → Prop} {Qc : Array Value → State → Outcome → State → Prop} {free : Addr → Prop} {Ts : List Cond} {own C : String} {b : Addr} {As rest : List Value} {g : JFrame}
    (S : CallFix p m c cc nL s args Ts own) (hM : Met l y ws rm Pc Qc mc ms free) (cw : vx_CVW R s args own C index y bytes maxL ret hh ws rm mc ms n) (hp : PreV s H C b Pc As)
    (hg : g.method = m) (hn : As.length = n) (hsize : g.locals.size = nL) (hstack : g.stack = As.reverse ++ .ref b :: rest) (hW : 2 * g.monitorRoom + (rest.map fun v => v.category).sum ≤ 8) (hdg : decode cc g.pc = .ok (.invokevirtual index, 3)) (hf : cells + mc ≤ R.cells ∧ slots + ms ≤ R.slots) :
    va_Run p l e R s m args below meth c H locs cells slots mc ms g rest (Qc (Value.ref b :: As).toArray) free := by
  obtain ⟨⟨hrc, hrs, hfr, hlo, hws, hcw⟩, hcode, hini, hy, hlen, hl, hin, hse⟩ := cw
  have hK : Back l R p e below s args y 3 8 (PreOf R mc ms Pc) (PostOf Qc mc ms free) := va_backW (hh := hh) (bytes := bytes) (maxL := maxL) (ret := ret) hM hp.1 hrc hrs hfr hlo hws hcw (fun a' U hW => word_at hW (Or.inl (by first | rfl | simp [Cond.onTables, Cond.keeps, Cond.steady])) hini)
  obtain ⟨hx, hb, hml, ho, -⟩ := S
  obtain ⟨-, ⟨cellB, hcB, hoB, hclB⟩, hPc⟩ := hp
  intro T hT X
  obtain ⟨v, vm₁, ⟨U', l2, c2, s2⟩, hW₁, X', ⟨g', mk, t, L, e1, e2, hq, h1, hL, h2, h3⟩, st⟩ := vx_callVW X hx (C := C) (hh := hh) (bytes := bytes) (maxL := maxL) (ret := ret) ho hl hin hse hcode hy hK (by rw [hT]; exact hcB) hoB hclB hg (hsize.trans hml.symm) (argsL := As) (rest := rest) (fun sig h => hn.trans (hlen sig h)) hstack hW (by rw [hb]; exact hdg)
    (fun vm₁ hW₁ => ⟨hf.1, hf.2, hPc (T.setVm vm₁) hT hW₁⟩)
  dsimp only [Pt.U, Pt.locs, Pt.cells, Pt.slots] at X' e1 e2 h1 h2 h3 st
  subst h1; subst h2; subst h3
  exact ⟨v, (T.setVm vm₁).calling g' mk (Value.ref b :: As).toArray, t, U', L, hT, X', hL, e1, e2, hq, st⟩
section
variable {y : MethodName} {bytes cc : ByteArray} {maxL nL mc ms n index : Nat} {ret : Option FieldType} {ws : List Cond} {rm : Room} {Pc : Array Value → State → Prop} {Qc : Array Value → State → Outcome → State → Prop} {XC : String → State → State → Prop} {free : Addr → Prop} {Ts : List Cond} {own C : String} {b : Addr} {As rest : List Value} {g : JFrame}
theorem vx_runVX {hh : List (Nat × Nat × Nat × Nat)} (S : CallFix p m c cc nL s args Ts own) (hM : vx_Met l y ws rm Pc Qc XC mc ms free) (cw : vx_CVW R s args own C index y bytes maxL ret hh ws rm mc ms n) (hp : PreV s H C b Pc As)
    (hg : g.method = m) (hn : As.length = n) (hsize : g.locals.size = nL) (hstack : g.stack = As.reverse ++ .ref b :: rest) (hW : 2 * g.monitorRoom + (rest.map fun v => v.category).sum ≤ 8) (hdg : decode cc g.pc = .ok (.invokevirtual index, 3)) (hf : cells + mc ≤ R.cells ∧ slots + ms ≤ R.slots) :
    vx_Run p l e R s m args below meth c H locs cells slots mc ms g rest (Qc (Value.ref b :: As).toArray) XC free := by
  obtain ⟨⟨hrc, hrs, hfr, hlo, hws, hcw⟩, hcode, hini, hy, hlen, hl, hin, hse⟩ := cw
  have hK : vx_Back l R p e below s args y 3 8 (PreOf R mc ms Pc) (PostOf Qc mc ms free) (vx_Post XC mc ms free) := vx_backW (hh := hh) (bytes := bytes) (maxL := maxL) (ret := ret) hM hp.1 hrc hrs hfr hlo hws hcw (fun a' U hW => word_at hW (Or.inl (by first | rfl | simp [Cond.onTables, Cond.keeps, Cond.steady])) hini)
  obtain ⟨hx, hb, hml, ho, -⟩ := S
  obtain ⟨-, ⟨cellB, hcB, hoB, hclB⟩, hPc⟩ := hp
  intro T hT X
  rcases vx_callVX X hx (C := C) (hh := hh) (bytes := bytes) (maxL := maxL) (ret := ret) ho hl hin hse hcode hy hK (by rw [hT]; exact hcB) hoB hclB hg (hsize.trans hml.symm) (argsL := As) (rest := rest) (fun sig h => hn.trans (hlen sig h)) hstack hW (by rw [hb]; exact hdg)
    (fun vm₁ hW₁ => ⟨hf.1, hf.2, hPc (T.setVm vm₁) hT hW₁⟩) with ⟨v, vm₁, ⟨U', l2, c2, s2⟩, hW₁, X', ⟨g', mk, t, L, e1, e2, hq, h1, hL, h2, h3⟩, st⟩ | ⟨q, vm₁, ⟨U', l2, c2, s2⟩, hW₁, X', ⟨g', mk, t, L, E, ce, e1, e2, hq, hce, hcv, hcl, h1, hL, h2, h3⟩, st⟩
  · dsimp only [Pt.U, Pt.locs, Pt.cells, Pt.slots] at X' e1 e2 h1 h2 h3 st
    subst h1; subst h2; subst h3
    exact Or.inl ⟨v, (T.setVm vm₁).calling g' mk (Value.ref b :: As).toArray, t, U', L, hT, X', hL, e1, e2, hq, st⟩
  · dsimp only [Pt.U, Pt.locs, Pt.cells, Pt.slots] at X' e1 e2 h1 h2 h3 st hcl
    subst h1; subst h2; subst h3
    exact Or.inr ⟨q, (T.setVm vm₁).calling g' mk (Value.ref b :: As).toArray, t, U', L, E, ce, hT, X', hL, e1, e2, hq, hce, hcv, vx_cls hW₁ hcl, st⟩
theorem vx_runSX {hh : List (Nat × Nat × Nat × Nat)} (S : CallFix p m c cc nL s args Ts own) (hM : vx_Met l y ws rm Pc Qc XC mc ms free) (cw : vx_CSW R s args own index y bytes maxL ret hh ws rm mc ms n) (hp : PreS s H Pc As)
    (hg : g.method = m) (hn : As.length = n) (hsize : g.locals.size = nL) (hstack : g.stack = As.reverse ++ rest) (hW : 2 * g.monitorRoom + (rest.map fun v => v.category).sum ≤ 8) (hdg : decode cc g.pc = .ok (.invokestatic index, 3)) (hf : cells + mc ≤ R.cells ∧ slots + ms ≤ R.slots) :
    vx_Run p l e R s m args below meth c H locs cells slots mc ms g rest (Qc As.toArray) XC free := by
  obtain ⟨⟨hrc, hrs, hfr, hlo, hws, hcw⟩, hcode, hini, hy, hlen, hl, hstt⟩ := cw
  have hK : vx_Back l R p e below s args y 3 8 (PreOf R mc ms Pc) (PostOf Qc mc ms free) (vx_Post XC mc ms free) := vx_backW (hh := hh) (bytes := bytes) (maxL := maxL) (ret := ret) hM hp.1 hrc hrs hfr hlo hws hcw (fun a' U hW => word_at hW (Or.inl (by first | rfl | simp [Cond.onTables, Cond.keeps, Cond.steady])) hini)
  obtain ⟨hx, hb, hml, ho, -⟩ := S
  intro T hT X
  rcases vx_callSX X hx (hh := hh) (bytes := bytes) (maxL := maxL) (ret := ret) ho hl hstt hini hcode hy hK hg (hsize.trans hml.symm) (argsL := As) (rest := rest) (fun sig h => hn.trans (hlen sig h)) hstack hW (by rw [hb]; exact hdg)
    (fun vm₁ hW₁ => ⟨hf.1, hf.2, hp.2 (T.setVm vm₁) hT hW₁⟩) with ⟨v, vm₁, ⟨U', l2, c2, s2⟩, hW₁, X', ⟨g', mk, t, L, e1, e2, hq, h1, hL, h2, h3⟩, st⟩ | ⟨q, vm₁, ⟨U', l2, c2, s2⟩, hW₁, X', ⟨g', mk, t, L, E, ce, e1, e2, hq, hce, hcv, hcl, h1, hL, h2, h3⟩, st⟩
  · dsimp only [Pt.U, Pt.locs, Pt.cells, Pt.slots] at X' e1 e2 h1 h2 h3 st
    subst h1; subst h2; subst h3
    exact Or.inl ⟨v, (T.setVm vm₁).calling g' mk As.toArray, t, U', L, hT, X', hL, e1, e2, hq, st⟩
  · dsimp only [Pt.U, Pt.locs, Pt.cells, Pt.slots] at X' e1 e2 h1 h2 h3 st hcl
    subst h1; subst h2; subst h3
    exact Or.inr ⟨q, (T.setVm vm₁).calling g' mk As.toArray, t, U', L, E, ce, hT, X', hL, e1, e2, hq, hce, hcv, vx_cls hW₁ hcl, st⟩
end
end VXH
theorem vx_ofWH {l : Launch} {y : MethodName} {ws ws' : List Cond} {rm : Room} {Pc : Array Value → State → Prop} {Qc : Array Value → State → Outcome → State → Prop} {XC : String → State → State → Prop} {mc ms : Nat} {free : Addr → Prop} {cc : ByteArray} {maxL : Nat} {ret : Option FieldType} {hh : List (Nat × Nat × Nat × Nat)}
    (hy : plainName y.cls = true) (hw : ws = Cond.codeWith y cc maxL ret hh :: ws')
    (body : ∀ p e s m args below meth c s₁, BodyLoose p l y (headSpec ws rm) cc maxL ret e s m args below meth c s₁ → c.maxLocals = maxL → Pc args s →
      W p l e (headSpec ws rm).room s m args below meth c s.heap [] 0 0 (vx_MQ below Qc XC args s mc ms free) (entryFrame m args maxL)) : vx_Met l y ws rm Pc Qc XC mc ms free := by
  refine MetFree.of_bodyS (code := cc) (maxLocals := maxL) (ret := ret) hy ?_ ?_
  · intro args s m h hn
    obtain ⟨m9, meth, c, hn9, h1, h2, h3, h4, -, h5, h6, -⟩ := Cond.codeWith_spec (atoms_spec (ws := ws) h _ (by rw [hw]; exact List.mem_cons_self))
    cases hn.symm.trans hn9
    exact ⟨meth, c, h1, h2, h3, h4, h5, h6⟩
  · intro p e s m args below meth c s₁ B hml hP _
    have hh0 : s₁.heap = s.heap := by rw [B.state]; rfl
    obtain ⟨t, a1, o, b1, b2, b3⟩ := body p e s m args below meth c s₁ B hml hP s₁ hh0 (Stand.of_body B)
    exact ⟨t, o, a1, b1, b2, b3⟩
/-! ===== END ===== -/
end
section
/-! ===== BEGIN printed: names, fields, word lists, decode rows ===== -/
def RX0 : String := "FableIndex$Book"
def TX0 : u_T := fun k => match k with
  | 0 => ("FableIndex$Book", "count", "I", false)
  | 1 => ("FableIndex$Book", "moral", "[I", true)
  | 2 => ("FableIndex$Book", "beasts", "[I", true)
  | 3 => ("FableIndex$Book", "home", "[I", true)
  | 4 => ("FableIndex$Book", "parent", "[I", true)
  | 5 => ("FableIndex$Book", "variants", "[I", true)
  | _ => ("FableIndex$Book", "ancestors", "[I", true)
def tyX0 : Nat → FieldType := fun k => match k with
  | 0 => .int
  | 1 => .array .int
  | 2 => .array .int
  | 3 => .array .int
  | 4 => .array .int
  | 5 => .array .int
  | _ => .array .int
abbrev wsX00 : List Cond := u_ws RX0 TX0 7
theorem nmX0 : ∀ a, a < 7 → ∀ b, b < 7 → a ≠ b → (TX0 a).2.1 ≠ (TX0 b).2.1 := by decide +kernel
theorem tyX0_ok : ∀ k, k < 7 → parseFieldDescriptor (TX0 k).2.2.1 = some (tyX0 k) := by decide +kernel
abbrev cX0_init : ByteArray := prog_2_method_1_code
def yX0_init : MethodName := ⟨RX0, "<init>", "()V"⟩
abbrev cX0_write : ByteArray := prog_2_method_2_code
def yX0_write : MethodName := ⟨RX0, "write", "(IIII)I"⟩
abbrev cX0_all : ByteArray := prog_2_method_3_code
def yX0_all : MethodName := ⟨RX0, "all", "()I"⟩
abbrev cX0_withMoral : ByteArray := prog_2_method_4_code
def yX0_withMoral : MethodName := ⟨RX0, "withMoral", "(I)I"⟩
abbrev cX0_withBeast : ByteArray := prog_2_method_5_code
def yX0_withBeast : MethodName := ⟨RX0, "withBeast", "(I)I"⟩
def RX1 : String := "FableIndex$Land"
def TX1 : u_T := fun k => match k with
  | 0 => ("FableIndex$Land", "ways", "[I", true)
  | 1 => ("FableIndex$Land", "bannedMorals", "[I", true)
  | 2 => ("FableIndex$Land", "bannedBeasts", "[I", true)
  | 3 => ("FableIndex$Land", "told", "[I", true)
  | 4 => ("FableIndex$Land", "allowed", "[I", true)
  | 5 => ("FableIndex$Land", "kept", "[I", true)
  | _ => ("FableIndex$Land", "hushed", "I", false)
def tyX1 : Nat → FieldType := fun k => match k with
  | 0 => .array .int
  | 1 => .array .int
  | 2 => .array .int
  | 3 => .array .int
  | 4 => .array .int
  | 5 => .array .int
  | _ => .int
abbrev wsX10 : List Cond := u_ws RX1 TX1 7
theorem nmX1 : ∀ a, a < 7 → ∀ b, b < 7 → a ≠ b → (TX1 a).2.1 ≠ (TX1 b).2.1 := by decide +kernel
theorem tyX1_ok : ∀ k, k < 7 → parseFieldDescriptor (TX1 k).2.2.1 = some (tyX1 k) := by decide +kernel
abbrev cX1_init : ByteArray := prog_3_method_1_code
def yX1_init : MethodName := ⟨RX1, "<init>", "()V"⟩
abbrev cX1_become : ByteArray := prog_3_method_2_code
def yX1_become : MethodName := ⟨RX1, "become", "(LFableIndex$Land;)V"⟩
abbrev cX1_turnWay : ByteArray := prog_3_method_3_code
def yX1_turnWay : MethodName := ⟨RX1, "turnWay", "(II)V"⟩
abbrev cX1_bans : ByteArray := prog_3_method_4_code
def yX1_bans : MethodName := ⟨RX1, "bans", "(LFableIndex$Book;II)Z"⟩
abbrev cX1_welcome : ByteArray := prog_3_method_5_code
def yX1_welcome : MethodName := ⟨RX1, "welcome", "(LFableIndex$Book;I)I"⟩
abbrev cX1_count : ByteArray := prog_3_method_6_code
def yX1_count : MethodName := ⟨RX1, "count", "(I)I"⟩
abbrev cX1_live : ByteArray := prog_3_method_7_code
def yX1_live : MethodName := ⟨RX1, "live", "(LFableIndex$Book;I)V"⟩
abbrev cX1_hush : ByteArray := prog_3_method_8_code
def yX1_hush : MethodName := ⟨RX1, "hush", "()V"⟩
abbrev cX1_spread : ByteArray := prog_3_method_9_code
def yX1_spread : MethodName := ⟨RX1, "spread", "(LFableIndex$Book;)Z"⟩
abbrev cX1_arriving : ByteArray := prog_3_method_10_code
def yX1_arriving : MethodName := ⟨RX1, "arriving", "(I)I"⟩
abbrev cX1_admitted : ByteArray := prog_3_method_11_code
def yX1_admitted : MethodName := ⟨RX1, "admitted", "(LFableIndex$Book;II)I"⟩
def RX2 : String := "FableIndex"
def TX2 : u_T := fun k => match k with
  | 0 => ("FableIndex", "book", "LFableIndex$Book;", true)
  | 1 => ("FableIndex", "land", "LFableIndex$Land;", true)
  | 2 => ("FableIndex", "trial", "LFableIndex$Land;", true)
  | _ => ("FableIndex", "season", "I", false)
def tyX2 : Nat → FieldType := fun k => match k with
  | 0 => .object "FableIndex$Book"
  | 1 => .object "FableIndex$Land"
  | 2 => .object "FableIndex$Land"
  | _ => .int
abbrev wsX20 : List Cond := u_ws RX2 TX2 4
theorem nmX2 : ∀ a, a < 4 → ∀ b, b < 4 → a ≠ b → (TX2 a).2.1 ≠ (TX2 b).2.1 := by decide +kernel
theorem tyX2_ok : ∀ k, k < 4 → parseFieldDescriptor (TX2 k).2.2.1 = some (tyX2 k) := by decide +kernel
abbrev cX2_init : ByteArray := prog_1_method_1_code
def yX2_init : MethodName := ⟨RX2, "<init>", "()V"⟩
abbrev cX2_addFable : ByteArray := prog_1_method_2_code
def yX2_addFable : MethodName := ⟨RX2, "addFable", "(III)I"⟩
abbrev cX2_addBeast : ByteArray := prog_1_method_3_code
def yX2_addBeast : MethodName := ⟨RX2, "addBeast", "(II)I"⟩
abbrev cX2_addVariant : ByteArray := prog_1_method_4_code
def yX2_addVariant : MethodName := ⟨RX2, "addVariant", "(IIII)I"⟩
abbrev cX2_turnPass : ByteArray := prog_1_method_5_code
def yX2_turnPass : MethodName := ⟨RX2, "turnPass", "(II)Z"⟩
abbrev cX2_turnMoral : ByteArray := prog_1_method_6_code
def yX2_turnMoral : MethodName := ⟨RX2, "turnMoral", "(II)Z"⟩
abbrev cX2_turnBeast : ByteArray := prog_1_method_7_code
def yX2_turnBeast : MethodName := ⟨RX2, "turnBeast", "(II)Z"⟩
abbrev cX2_tell : ByteArray := prog_1_method_8_code
def yX2_tell : MethodName := ⟨RX2, "tell", "(II)I"⟩
abbrev cX2_forget : ByteArray := prog_1_method_9_code
def yX2_forget : MethodName := ⟨RX2, "forget", "(II)I"⟩
abbrev cX2_passSeasons : ByteArray := prog_1_method_10_code
def yX2_passSeasons : MethodName := ⟨RX2, "passSeasons", "(I)I"⟩
abbrev cX2_moralOf : ByteArray := prog_1_method_11_code
def yX2_moralOf : MethodName := ⟨RX2, "moralOf", "(I)I"⟩
abbrev cX2_beastsOf : ByteArray := prog_1_method_12_code
def yX2_beastsOf : MethodName := ⟨RX2, "beastsOf", "(I)I"⟩
abbrev cX2_hasBeast : ByteArray := prog_1_method_13_code
def yX2_hasBeast : MethodName := ⟨RX2, "hasBeast", "(II)Z"⟩
abbrev cX2_homeOf : ByteArray := prog_1_method_14_code
def yX2_homeOf : MethodName := ⟨RX2, "homeOf", "(I)I"⟩
abbrev cX2_parentOf : ByteArray := prog_1_method_15_code
def yX2_parentOf : MethodName := ⟨RX2, "parentOf", "(I)I"⟩
abbrev cX2_variantsOf : ByteArray := prog_1_method_16_code
def yX2_variantsOf : MethodName := ⟨RX2, "variantsOf", "(I)I"⟩
abbrev cX2_valleysOf : ByteArray := prog_1_method_17_code
def yX2_valleysOf : MethodName := ⟨RX2, "valleysOf", "(I)I"⟩
abbrev cX2_nearestAncestor : ByteArray := prog_1_method_18_code
def yX2_nearestAncestor : MethodName := ⟨RX2, "nearestAncestor", "(II)I"⟩
abbrev cX2_kinship : ByteArray := prog_1_method_19_code
def yX2_kinship : MethodName := ⟨RX2, "kinship", "(II)I"⟩
abbrev cX2_sharedBeasts : ByteArray := prog_1_method_20_code
def yX2_sharedBeasts : MethodName := ⟨RX2, "sharedBeasts", "(II)I"⟩
abbrev cX2_isOpen : ByteArray := prog_1_method_21_code
def yX2_isOpen : MethodName := ⟨RX2, "isOpen", "(II)Z"⟩
abbrev cX2_isBanned : ByteArray := prog_1_method_22_code
def yX2_isBanned : MethodName := ⟨RX2, "isBanned", "(II)Z"⟩
abbrev cX2_isTold : ByteArray := prog_1_method_23_code
def yX2_isTold : MethodName := ⟨RX2, "isTold", "(II)Z"⟩
abbrev cX2_toldIn : ByteArray := prog_1_method_24_code
def yX2_toldIn : MethodName := ⟨RX2, "toldIn", "(I)I"⟩
abbrev cX2_allowedIn : ByteArray := prog_1_method_25_code
def yX2_allowedIn : MethodName := ⟨RX2, "allowedIn", "(I)I"⟩
abbrev cX2_bansOf : ByteArray := prog_1_method_26_code
def yX2_bansOf : MethodName := ⟨RX2, "bansOf", "(I)I"⟩
abbrev cX2_fables : ByteArray := prog_1_method_27_code
def yX2_fables : MethodName := ⟨RX2, "fables", "()I"⟩
abbrev cX2_season : ByteArray := prog_1_method_28_code
def yX2_season : MethodName := ⟨RX2, "season", "()I"⟩
abbrev cX2_tellings : ByteArray := prog_1_method_29_code
def yX2_tellings : MethodName := ⟨RX2, "tellings", "()I"⟩
abbrev cX2_silenced : ByteArray := prog_1_method_30_code
def yX2_silenced : MethodName := ⟨RX2, "silenced", "()I"⟩
abbrev cX2_fablesWithMoral : ByteArray := prog_1_method_31_code
def yX2_fablesWithMoral : MethodName := ⟨RX2, "fablesWithMoral", "(I)I"⟩
abbrev cX2_fablesWithBeast : ByteArray := prog_1_method_32_code
def yX2_fablesWithBeast : MethodName := ⟨RX2, "fablesWithBeast", "(I)I"⟩
abbrev cX2_favouriteMoral : ByteArray := prog_1_method_33_code
def yX2_favouriteMoral : MethodName := ⟨RX2, "favouriteMoral", "()I"⟩
abbrev cX2_favouriteBeast : ByteArray := prog_1_method_34_code
def yX2_favouriteBeast : MethodName := ⟨RX2, "favouriteBeast", "()I"⟩
abbrev cX2_seasonsUntil : ByteArray := prog_1_method_35_code
def yX2_seasonsUntil : MethodName := ⟨RX2, "seasonsUntil", "(II)I"⟩
abbrev cX2_tellingsAfter : ByteArray := prog_1_method_36_code
def yX2_tellingsAfter : MethodName := ⟨RX2, "tellingsAfter", "(I)I"⟩
abbrev cX2_bestPass : ByteArray := prog_1_method_37_code
def yX2_bestPass : MethodName := ⟨RX2, "bestPass", "(I)I"⟩
abbrev cX2_meanBeasts : ByteArray := prog_1_method_38_code
def yX2_meanBeasts : MethodName := ⟨RX2, "meanBeasts", "()D"⟩
abbrev cX2_digest : ByteArray := prog_1_method_39_code
def yX2_digest : MethodName := ⟨RX2, "digest", "()J"⟩
abbrev cX2_mixedWithFable : ByteArray := prog_1_method_40_code
def yX2_mixedWithFable : MethodName := ⟨RX2, "mixedWithFable", "(JI)J"⟩
abbrev cX2_mixedWithValley : ByteArray := prog_1_method_41_code
def yX2_mixedWithValley : MethodName := ⟨RX2, "mixedWithValley", "(JI)J"⟩
abbrev cX2_mixed : ByteArray := prog_1_method_42_code
def yX2_mixed : MethodName := ⟨RX2, "mixed", "(JI)J"⟩
abbrev cX2_tellingsWithPass : ByteArray := prog_1_method_43_code
def yX2_tellingsWithPass : MethodName := ⟨RX2, "tellingsWithPass", "(III)I"⟩
abbrev cX2_tellingsOfTrial : ByteArray := prog_1_method_44_code
def yX2_tellingsOfTrial : MethodName := ⟨RX2, "tellingsOfTrial", "(I)I"⟩
abbrev cX2_needFable : ByteArray := prog_1_method_45_code
def yX2_needFable : MethodName := ⟨RX2, "needFable", "(I)V"⟩
abbrev cX2_needFreePage : ByteArray := prog_1_method_46_code
def yX2_needFreePage : MethodName := ⟨RX2, "needFreePage", "()V"⟩
abbrev cX2_needMoral : ByteArray := prog_1_method_47_code
def yX2_needMoral : MethodName := ⟨RX2, "needMoral", "(I)V"⟩
abbrev cX2_needBeast : ByteArray := prog_1_method_48_code
def yX2_needBeast : MethodName := ⟨RX2, "needBeast", "(I)V"⟩
abbrev cX2_needValley : ByteArray := prog_1_method_49_code
def yX2_needValley : MethodName := ⟨RX2, "needValley", "(I)V"⟩
abbrev cX2_needSeasons : ByteArray := prog_1_method_50_code
def yX2_needSeasons : MethodName := ⟨RX2, "needSeasons", "(II)V"⟩
abbrev cX2_has : ByteArray := prog_1_method_51_code
def yX2_has : MethodName := ⟨RX2, "has", "(II)Z"⟩
abbrev cX2_turned : ByteArray := prog_1_method_52_code
def yX2_turned : MethodName := ⟨RX2, "turned", "(II)I"⟩
abbrev cX2_size : ByteArray := prog_1_method_53_code
def yX2_size : MethodName := ⟨RX2, "size", "(I)I"⟩
abbrev cX2_greatest : ByteArray := prog_1_method_54_code
def yX2_greatest : MethodName := ⟨RX2, "greatest", "(I)I"⟩
abbrev cX2_smallestAlone : ByteArray := prog_1_method_55_code
def yX2_smallestAlone : MethodName := ⟨RX2, "smallestAlone", "(I)I"⟩
def RX3 : String := "FableIndexModel"
def TX3 : u_T := fun k => match k with
  | 0 => ("FableIndexModel", "thrown", "I", false)
  | 1 => ("FableIndexModel", "fables", "I", false)
  | 2 => ("FableIndexModel", "season", "I", false)
  | 3 => ("FableIndexModel", "silenced", "I", false)
  | 4 => ("FableIndexModel", "moral", "[I", true)
  | 5 => ("FableIndexModel", "beasts", "[I", true)
  | 6 => ("FableIndexModel", "home", "[I", true)
  | 7 => ("FableIndexModel", "parent", "[I", true)
  | 8 => ("FableIndexModel", "told", "[I", true)
  | 9 => ("FableIndexModel", "morals", "[I", true)
  | 10 => ("FableIndexModel", "bans", "[I", true)
  | 11 => ("FableIndexModel", "passes", "[I", true)
  | 12 => ("FableIndexModel", "next", "[I", true)
  | _ => ("FableIndexModel", "kept", "[I", true)
def tyX3 : Nat → FieldType := fun k => match k with
  | 0 => .int
  | 1 => .int
  | 2 => .int
  | 3 => .int
  | 4 => .array .int
  | 5 => .array .int
  | 6 => .array .int
  | 7 => .array .int
  | 8 => .array .int
  | 9 => .array .int
  | 10 => .array .int
  | 11 => .array .int
  | 12 => .array .int
  | _ => .array .int
abbrev wsX30 : List Cond := u_ws RX3 TX3 14
theorem nmX3 : ∀ a, a < 14 → ∀ b, b < 14 → a ≠ b → (TX3 a).2.1 ≠ (TX3 b).2.1 := by decide +kernel
theorem tyX3_ok : ∀ k, k < 14 → parseFieldDescriptor (TX3 k).2.2.1 = some (tyX3 k) := by decide +kernel
abbrev cX3_init : ByteArray := prog_5_method_1_code
def yX3_init : MethodName := ⟨RX3, "<init>", "()V"⟩
abbrev cX3_thrown : ByteArray := prog_5_method_2_code
def yX3_thrown : MethodName := ⟨RX3, "thrown", "()I"⟩
abbrev cX3_fail : ByteArray := prog_5_method_3_code
def yX3_fail : MethodName := ⟨RX3, "fail", "(I)I"⟩
abbrev cX3_failed : ByteArray := prog_5_method_4_code
def yX3_failed : MethodName := ⟨RX3, "failed", "(I)Z"⟩
abbrev cX3_isIn : ByteArray := prog_5_method_5_code
def yX3_isIn : MethodName := ⟨RX3, "isIn", "(III)Z"⟩
abbrev cX3_isFable : ByteArray := prog_5_method_6_code
def yX3_isFable : MethodName := ⟨RX3, "isFable", "(I)Z"⟩
abbrev cX3_isValley : ByteArray := prog_5_method_7_code
def yX3_isValley : MethodName := ⟨RX3, "isValley", "(I)Z"⟩
abbrev cX3_isBeast : ByteArray := prog_5_method_8_code
def yX3_isBeast : MethodName := ⟨RX3, "isBeast", "(I)Z"⟩
abbrev cX3_isMoral : ByteArray := prog_5_method_9_code
def yX3_isMoral : MethodName := ⟨RX3, "isMoral", "(I)Z"⟩
abbrev cX3_has : ByteArray := prog_5_method_10_code
def yX3_has : MethodName := ⟨RX3, "has", "(II)Z"⟩
abbrev cX3_many : ByteArray := prog_5_method_11_code
def yX3_many : MethodName := ⟨RX3, "many", "(I)I"⟩
abbrev cX3_banned : ByteArray := prog_5_method_12_code
def yX3_banned : MethodName := ⟨RX3, "banned", "(II)Z"⟩
abbrev cX3_write : ByteArray := prog_5_method_13_code
def yX3_write : MethodName := ⟨RX3, "write", "(IIII)I"⟩
abbrev cX3_children : ByteArray := prog_5_method_14_code
def yX3_children : MethodName := ⟨RX3, "children", "(I)I"⟩
abbrev cX3_addFable : ByteArray := prog_5_method_15_code
def yX3_addFable : MethodName := ⟨RX3, "addFable", "(III)I"⟩
abbrev cX3_addBeast : ByteArray := prog_5_method_16_code
def yX3_addBeast : MethodName := ⟨RX3, "addBeast", "(II)I"⟩
abbrev cX3_addVariant : ByteArray := prog_5_method_17_code
def yX3_addVariant : MethodName := ⟨RX3, "addVariant", "(IIII)I"⟩
abbrev cX3_turnPass : ByteArray := prog_5_method_18_code
def yX3_turnPass : MethodName := ⟨RX3, "turnPass", "(II)Z"⟩
abbrev cX3_turnMoral : ByteArray := prog_5_method_19_code
def yX3_turnMoral : MethodName := ⟨RX3, "turnMoral", "(II)Z"⟩
abbrev cX3_turnBeast : ByteArray := prog_5_method_20_code
def yX3_turnBeast : MethodName := ⟨RX3, "turnBeast", "(II)Z"⟩
abbrev cX3_isPlace : ByteArray := prog_5_method_21_code
def yX3_isPlace : MethodName := ⟨RX3, "isPlace", "(II)Z"⟩
abbrev cX3_placesOf : ByteArray := prog_5_method_22_code
def yX3_placesOf : MethodName := ⟨RX3, "placesOf", "(I)I"⟩
abbrev cX3_tell : ByteArray := prog_5_method_23_code
def yX3_tell : MethodName := ⟨RX3, "tell", "(II)I"⟩
abbrev cX3_forget : ByteArray := prog_5_method_24_code
def yX3_forget : MethodName := ⟨RX3, "forget", "(II)I"⟩
abbrev cX3_all : ByteArray := prog_5_method_25_code
def yX3_all : MethodName := ⟨RX3, "all", "()I"⟩
abbrev cX3_comes : ByteArray := prog_5_method_26_code
def yX3_comes : MethodName := ⟨RX3, "comes", "(II)I"⟩
abbrev cX3_seasonOn : ByteArray := prog_5_method_27_code
def yX3_seasonOn : MethodName := ⟨RX3, "seasonOn", "()I"⟩
abbrev cX3_passSeasons : ByteArray := prog_5_method_28_code
def yX3_passSeasons : MethodName := ⟨RX3, "passSeasons", "(I)I"⟩
abbrev cX3_moralOf : ByteArray := prog_5_method_29_code
def yX3_moralOf : MethodName := ⟨RX3, "moralOf", "(I)I"⟩
abbrev cX3_beastsOf : ByteArray := prog_5_method_30_code
def yX3_beastsOf : MethodName := ⟨RX3, "beastsOf", "(I)I"⟩
abbrev cX3_hasBeast : ByteArray := prog_5_method_31_code
def yX3_hasBeast : MethodName := ⟨RX3, "hasBeast", "(II)Z"⟩
abbrev cX3_homeOf : ByteArray := prog_5_method_32_code
def yX3_homeOf : MethodName := ⟨RX3, "homeOf", "(I)I"⟩
abbrev cX3_parentOf : ByteArray := prog_5_method_33_code
def yX3_parentOf : MethodName := ⟨RX3, "parentOf", "(I)I"⟩
abbrev cX3_variantsOf : ByteArray := prog_5_method_34_code
def yX3_variantsOf : MethodName := ⟨RX3, "variantsOf", "(I)I"⟩
abbrev cX3_valleysOf : ByteArray := prog_5_method_35_code
def yX3_valleysOf : MethodName := ⟨RX3, "valleysOf", "(I)I"⟩
abbrev cX3_ancestors : ByteArray := prog_5_method_36_code
def yX3_ancestors : MethodName := ⟨RX3, "ancestors", "(I)I"⟩
abbrev cX3_nearest : ByteArray := prog_5_method_37_code
def yX3_nearest : MethodName := ⟨RX3, "nearest", "(II)I"⟩
abbrev cX3_nearestAncestor : ByteArray := prog_5_method_38_code
def yX3_nearestAncestor : MethodName := ⟨RX3, "nearestAncestor", "(II)I"⟩
abbrev cX3_kinship : ByteArray := prog_5_method_39_code
def yX3_kinship : MethodName := ⟨RX3, "kinship", "(II)I"⟩
abbrev cX3_sharedBeasts : ByteArray := prog_5_method_40_code
def yX3_sharedBeasts : MethodName := ⟨RX3, "sharedBeasts", "(II)I"⟩
abbrev cX3_isOpen : ByteArray := prog_5_method_41_code
def yX3_isOpen : MethodName := ⟨RX3, "isOpen", "(II)Z"⟩
abbrev cX3_isBanned : ByteArray := prog_5_method_42_code
def yX3_isBanned : MethodName := ⟨RX3, "isBanned", "(II)Z"⟩
abbrev cX3_isTold : ByteArray := prog_5_method_43_code
def yX3_isTold : MethodName := ⟨RX3, "isTold", "(II)Z"⟩
abbrev cX3_toldIn : ByteArray := prog_5_method_44_code
def yX3_toldIn : MethodName := ⟨RX3, "toldIn", "(I)I"⟩
abbrev cX3_allowed : ByteArray := prog_5_method_45_code
def yX3_allowed : MethodName := ⟨RX3, "allowed", "(I)I"⟩
abbrev cX3_allowedIn : ByteArray := prog_5_method_46_code
def yX3_allowedIn : MethodName := ⟨RX3, "allowedIn", "(I)I"⟩
abbrev cX3_bansIn : ByteArray := prog_5_method_47_code
def yX3_bansIn : MethodName := ⟨RX3, "bansIn", "(I)I"⟩
abbrev cX3_bansOf : ByteArray := prog_5_method_48_code
def yX3_bansOf : MethodName := ⟨RX3, "bansOf", "(I)I"⟩
abbrev cX3_fables : ByteArray := prog_5_method_49_code
def yX3_fables : MethodName := ⟨RX3, "fables", "()I"⟩
abbrev cX3_season : ByteArray := prog_5_method_50_code
def yX3_season : MethodName := ⟨RX3, "season", "()I"⟩
abbrev cX3_tellings : ByteArray := prog_5_method_51_code
def yX3_tellings : MethodName := ⟨RX3, "tellings", "()I"⟩
abbrev cX3_silenced : ByteArray := prog_5_method_52_code
def yX3_silenced : MethodName := ⟨RX3, "silenced", "()I"⟩
abbrev cX3_fablesWithMoral : ByteArray := prog_5_method_53_code
def yX3_fablesWithMoral : MethodName := ⟨RX3, "fablesWithMoral", "(I)I"⟩
abbrev cX3_fablesWithBeast : ByteArray := prog_5_method_54_code
def yX3_fablesWithBeast : MethodName := ⟨RX3, "fablesWithBeast", "(I)I"⟩
abbrev cX3_favourite : ByteArray := prog_5_method_55_code
def yX3_favourite : MethodName := ⟨RX3, "favourite", "(Z)I"⟩
abbrev cX3_favouriteMoral : ByteArray := prog_5_method_56_code
def yX3_favouriteMoral : MethodName := ⟨RX3, "favouriteMoral", "()I"⟩
abbrev cX3_favouriteBeast : ByteArray := prog_5_method_57_code
def yX3_favouriteBeast : MethodName := ⟨RX3, "favouriteBeast", "()I"⟩
abbrev cX3_keep : ByteArray := prog_5_method_58_code
def yX3_keep : MethodName := ⟨RX3, "keep", "()V"⟩
abbrev cX3_bringBack : ByteArray := prog_5_method_59_code
def yX3_bringBack : MethodName := ⟨RX3, "bringBack", "()V"⟩
abbrev cX3_seasonsUntil : ByteArray := prog_5_method_60_code
def yX3_seasonsUntil : MethodName := ⟨RX3, "seasonsUntil", "(II)I"⟩
abbrev cX3_after : ByteArray := prog_5_method_61_code
def yX3_after : MethodName := ⟨RX3, "after", "(I)I"⟩
abbrev cX3_tellingsAfter : ByteArray := prog_5_method_62_code
def yX3_tellingsAfter : MethodName := ⟨RX3, "tellingsAfter", "(I)I"⟩
abbrev cX3_bestPass : ByteArray := prog_5_method_63_code
def yX3_bestPass : MethodName := ⟨RX3, "bestPass", "(I)I"⟩
abbrev cX3_meanBeasts : ByteArray := prog_5_method_64_code
def yX3_meanBeasts : MethodName := ⟨RX3, "meanBeasts", "()D"⟩
abbrev cX3_one : ByteArray := prog_5_method_65_code
def yX3_one : MethodName := ⟨RX3, "one", "(Z)I"⟩
abbrev cX3_digest : ByteArray := prog_5_method_66_code
def yX3_digest : MethodName := ⟨RX3, "digest", "()J"⟩
def RJ6 : String := "java/lang/Integer"
def TJ6 : u_T := fun k => match k with
  | _ => ("", "", "", false)
def tyJ6 : Nat → FieldType := fun k => match k with
  | _ => .int
abbrev wsJ60 : List Cond := u_ws RJ6 TJ6 0
theorem nmJ6 : ∀ a, a < 0 → ∀ b, b < 0 → a ≠ b → (TJ6 a).2.1 ≠ (TJ6 b).2.1 := by decide +kernel
theorem tyJ6_ok : ∀ k, k < 0 → parseFieldDescriptor (TJ6 k).2.2.1 = some (tyJ6 k) := by decide +kernel
abbrev cJ6_bitCount_0f7a4 : ByteArray := prog_10_method_49_code
def yJ6_bitCount_0f7a4 : MethodName := ⟨RJ6, "bitCount", "(I)I"⟩
def RJ0 : String := "java/lang/String"
def TJ0 : u_T := fun k => match k with
  | _ => ("", "", "", false)
def tyJ0 : Nat → FieldType := fun k => match k with
  | _ => .int
abbrev wsJ00 : List Cond := u_ws RJ0 TJ0 0
theorem nmJ0 : ∀ a, a < 0 → ∀ b, b < 0 → a ≠ b → (TJ0 a).2.1 ≠ (TJ0 b).2.1 := by decide +kernel
theorem tyJ0_ok : ∀ k, k < 0 → parseFieldDescriptor (TJ0 k).2.2.1 = some (tyJ0 k) := by decide +kernel
def RJ10 : String := "java/lang/System"
def TJ10 : u_T := fun k => match k with
  | _ => ("", "", "", false)
def tyJ10 : Nat → FieldType := fun k => match k with
  | _ => .int
abbrev wsJ100 : List Cond := u_ws RJ10 TJ10 0
theorem nmJ10 : ∀ a, a < 0 → ∀ b, b < 0 → a ≠ b → (TJ10 a).2.1 ≠ (TJ10 b).2.1 := by decide +kernel
theorem tyJ10_ok : ∀ k, k < 0 → parseFieldDescriptor (TJ10 k).2.2.1 = some (tyJ10 k) := by decide +kernel
def RL : String := "FableIndexLaw"
abbrev cL_addFable : ByteArray := method_3_code
def yL_addFable : MethodName := ⟨RL, "addFable", "(LFableIndex;III[J)I"⟩
abbrev cL_addBeast : ByteArray := method_4_code
def yL_addBeast : MethodName := ⟨RL, "addBeast", "(LFableIndex;II[J)I"⟩
abbrev cL_addVariant : ByteArray := method_5_code
def yL_addVariant : MethodName := ⟨RL, "addVariant", "(LFableIndex;IIII[J)I"⟩
abbrev cL_turnPass : ByteArray := method_6_code
def yL_turnPass : MethodName := ⟨RL, "turnPass", "(LFableIndex;II[J)I"⟩
abbrev cL_turnMoral : ByteArray := method_7_code
def yL_turnMoral : MethodName := ⟨RL, "turnMoral", "(LFableIndex;II[J)I"⟩
abbrev cL_turnBeast : ByteArray := method_8_code
def yL_turnBeast : MethodName := ⟨RL, "turnBeast", "(LFableIndex;II[J)I"⟩
abbrev cL_tell : ByteArray := method_9_code
def yL_tell : MethodName := ⟨RL, "tell", "(LFableIndex;II[J)I"⟩
abbrev cL_forget : ByteArray := method_10_code
def yL_forget : MethodName := ⟨RL, "forget", "(LFableIndex;II[J)I"⟩
abbrev cL_passSeasons : ByteArray := method_11_code
def yL_passSeasons : MethodName := ⟨RL, "passSeasons", "(LFableIndex;I[J)I"⟩
abbrev cL_moralOf : ByteArray := method_12_code
def yL_moralOf : MethodName := ⟨RL, "moralOf", "(LFableIndex;I[J)I"⟩
abbrev cL_beastsOf : ByteArray := method_13_code
def yL_beastsOf : MethodName := ⟨RL, "beastsOf", "(LFableIndex;I[J)I"⟩
abbrev cL_hasBeast : ByteArray := method_14_code
def yL_hasBeast : MethodName := ⟨RL, "hasBeast", "(LFableIndex;II[J)I"⟩
abbrev cL_homeOf : ByteArray := method_15_code
def yL_homeOf : MethodName := ⟨RL, "homeOf", "(LFableIndex;I[J)I"⟩
abbrev cL_parentOf : ByteArray := method_16_code
def yL_parentOf : MethodName := ⟨RL, "parentOf", "(LFableIndex;I[J)I"⟩
abbrev cL_variantsOf : ByteArray := method_17_code
def yL_variantsOf : MethodName := ⟨RL, "variantsOf", "(LFableIndex;I[J)I"⟩
abbrev cL_valleysOf : ByteArray := method_18_code
def yL_valleysOf : MethodName := ⟨RL, "valleysOf", "(LFableIndex;I[J)I"⟩
abbrev cL_nearestAncestor : ByteArray := method_19_code
def yL_nearestAncestor : MethodName := ⟨RL, "nearestAncestor", "(LFableIndex;II[J)I"⟩
abbrev cL_kinship : ByteArray := method_20_code
def yL_kinship : MethodName := ⟨RL, "kinship", "(LFableIndex;II[J)I"⟩
abbrev cL_sharedBeasts : ByteArray := method_21_code
def yL_sharedBeasts : MethodName := ⟨RL, "sharedBeasts", "(LFableIndex;II[J)I"⟩
abbrev cL_isOpen : ByteArray := method_22_code
def yL_isOpen : MethodName := ⟨RL, "isOpen", "(LFableIndex;II[J)I"⟩
abbrev cL_isBanned : ByteArray := method_23_code
def yL_isBanned : MethodName := ⟨RL, "isBanned", "(LFableIndex;II[J)I"⟩
abbrev cL_isTold : ByteArray := method_24_code
def yL_isTold : MethodName := ⟨RL, "isTold", "(LFableIndex;II[J)I"⟩
abbrev cL_toldIn : ByteArray := method_25_code
def yL_toldIn : MethodName := ⟨RL, "toldIn", "(LFableIndex;I[J)I"⟩
abbrev cL_allowedIn : ByteArray := method_26_code
def yL_allowedIn : MethodName := ⟨RL, "allowedIn", "(LFableIndex;I[J)I"⟩
abbrev cL_bansOf : ByteArray := method_27_code
def yL_bansOf : MethodName := ⟨RL, "bansOf", "(LFableIndex;I[J)I"⟩
abbrev cL_fablesWithMoral : ByteArray := method_28_code
def yL_fablesWithMoral : MethodName := ⟨RL, "fablesWithMoral", "(LFableIndex;I[J)I"⟩
abbrev cL_fablesWithBeast : ByteArray := method_29_code
def yL_fablesWithBeast : MethodName := ⟨RL, "fablesWithBeast", "(LFableIndex;I[J)I"⟩
abbrev cL_seasonsUntil : ByteArray := method_30_code
def yL_seasonsUntil : MethodName := ⟨RL, "seasonsUntil", "(LFableIndex;II[J)I"⟩
abbrev cL_tellingsAfter : ByteArray := method_31_code
def yL_tellingsAfter : MethodName := ⟨RL, "tellingsAfter", "(LFableIndex;I[J)I"⟩
abbrev cL_bestPass : ByteArray := method_32_code
def yL_bestPass : MethodName := ⟨RL, "bestPass", "(LFableIndex;I[J)I"⟩
abbrev cL_law : ByteArray := code
def yL_law : MethodName := ⟨RL, "law", "([I)Z"⟩
def wsX0_init : List Cond := .code yX0_init cX0_init 1 none :: ([.methodLink RX0 3 objectInit, .instanceMethod objectInit, .code objectInit ⟨#[0xb1]⟩ 1 none, .fieldLink RX0 9 "FableIndex$Book" "count" "I", .arrayClass .int, .fieldLink RX0 15 "FableIndex$Book" "moral" "[I", .fieldLink RX0 19 "FableIndex$Book" "beasts" "[I", .fieldLink RX0 22 "FableIndex$Book" "home" "[I", .fieldLink RX0 25 "FableIndex$Book" "parent" "[I", .fieldLink RX0 28 "FableIndex$Book" "variants" "[I", .fieldLink RX0 31 "FableIndex$Book" "ancestors" "[I"] ++ wsX00)
def wsX0_write : List Cond := .code yX0_write cX0_write 6 (some .int) :: ([.fieldLink RX0 9 "FableIndex$Book" "count" "I", .fieldLink RX0 15 "FableIndex$Book" "moral" "[I", .fieldLink RX0 19 "FableIndex$Book" "beasts" "[I", .fieldLink RX0 22 "FableIndex$Book" "home" "[I", .fieldLink RX0 25 "FableIndex$Book" "parent" "[I", .fieldLink RX0 28 "FableIndex$Book" "variants" "[I", .fieldLink RX0 31 "FableIndex$Book" "ancestors" "[I"] ++ wsX00)
def wsX0_all : List Cond := .code yX0_all cX0_all 1 (some .int) :: ([.fieldLink RX0 9 "FableIndex$Book" "count" "I"] ++ wsX00)
def wsX0_withMoral : List Cond := .code yX0_withMoral cX0_withMoral 4 (some .int) :: ([.fieldLink RX0 9 "FableIndex$Book" "count" "I", .fieldLink RX0 15 "FableIndex$Book" "moral" "[I"] ++ wsX00)
def wsX2_has : List Cond := .code yX2_has cX2_has 2 (some .boolean) :: ([])
def wsX0_withBeast : List Cond := .code yX0_withBeast cX0_withBeast 4 (some .int) :: ([.fieldLink RX0 9 "FableIndex$Book" "count" "I", .fieldLink RX0 19 "FableIndex$Book" "beasts" "[I", .static yX2_has, .initialized RX2, .code yX2_has cX2_has 2 (some .boolean)] ++ wsX00)
def wsX1_init : List Cond := .code yX1_init cX1_init 1 none :: ([.methodLink RX1 3 objectInit, .instanceMethod objectInit, .code objectInit ⟨#[0xb1]⟩ 1 none, .arrayClass .int, .fieldLink RX1 9 "FableIndex$Land" "ways" "[I", .fieldLink RX1 15 "FableIndex$Land" "bannedMorals" "[I", .fieldLink RX1 18 "FableIndex$Land" "bannedBeasts" "[I", .fieldLink RX1 21 "FableIndex$Land" "told" "[I", .fieldLink RX1 24 "FableIndex$Land" "allowed" "[I", .fieldLink RX1 27 "FableIndex$Land" "kept" "[I", .fieldLink RX1 30 "FableIndex$Land" "hushed" "I"] ++ wsX10)
def wsX1_become : List Cond := .code yX1_become cX1_become 3 none :: ([.fieldLink RX1 9 "FableIndex$Land" "ways" "[I", .fieldLink RX1 15 "FableIndex$Land" "bannedMorals" "[I", .fieldLink RX1 18 "FableIndex$Land" "bannedBeasts" "[I", .fieldLink RX1 21 "FableIndex$Land" "told" "[I", .fieldLink RX1 30 "FableIndex$Land" "hushed" "I"] ++ wsX10)
def wsX2_turned : List Cond := .code yX2_turned cX2_turned 2 (some .int) :: ([])
def wsX1_turnWay : List Cond := .code yX1_turnWay cX1_turnWay 3 none :: ([.fieldLink RX1 9 "FableIndex$Land" "ways" "[I", .static yX2_turned, .initialized RX2, .code yX2_turned cX2_turned 2 (some .int)] ++ wsX10)
def wsX1_bans : List Cond := .code yX1_bans cX1_bans 4 (some .boolean) :: ([.fieldLink RX1 15 "FableIndex$Land" "bannedMorals" "[I", .fieldLink RX1 38 "FableIndex$Book" "moral" "[I", .fieldLink RX1 18 "FableIndex$Land" "bannedBeasts" "[I", .fieldLink RX1 47 "FableIndex$Book" "beasts" "[I", .static yX2_has, .initialized RX2, .code yX2_has cX2_has 2 (some .boolean)] ++ wsX10 ++ wsX00)
def wsX1_welcome : List Cond := .code yX1_welcome cX1_welcome 5 (some .int) :: ([.fieldLink RX1 50 "FableIndex$Book" "count" "I", .methodLink RX1 53 yX1_bans, .instanceMethod yX1_bans, .selects RX1 yX1_bans yX1_bans, .initialized RX1, .code yX1_bans cX1_bans 4 (some .boolean), .fieldLink RX1 15 "FableIndex$Land" "bannedMorals" "[I", .fieldLink RX1 38 "FableIndex$Book" "moral" "[I", .fieldLink RX1 18 "FableIndex$Land" "bannedBeasts" "[I", .fieldLink RX1 47 "FableIndex$Book" "beasts" "[I", .static yX2_has, .initialized RX2, .code yX2_has cX2_has 2 (some .boolean)] ++ wsX00 ++ wsX10)
def wsJ6_bitCount_0f7a4 : List Cond := .code yJ6_bitCount_0f7a4 cJ6_bitCount_0f7a4 1 (some .int) :: ([.constant RJ6 265 (1431655765), .constant RJ6 266 (858993459), .constant RJ6 267 (252645135)])
def wsX2_size : List Cond := .code yX2_size cX2_size 1 (some .int) :: ([.methodLink RX2 253 yJ6_bitCount_0f7a4, .static yJ6_bitCount_0f7a4, .initialized RJ6, .code yJ6_bitCount_0f7a4 cJ6_bitCount_0f7a4 1 (some .int), .constant RJ6 265 (1431655765), .constant RJ6 266 (858993459), .constant RJ6 267 (252645135)])
def wsX1_count : List Cond := .code yX1_count cX1_count 4 (some .int) :: ([.fieldLink RX1 21 "FableIndex$Land" "told" "[I", .static yX2_size, .initialized RX2, .code yX2_size cX2_size 1 (some .int), .methodLink RX2 253 yJ6_bitCount_0f7a4, .static yJ6_bitCount_0f7a4, .initialized RJ6, .code yJ6_bitCount_0f7a4 cJ6_bitCount_0f7a4 1 (some .int), .constant RJ6 265 (1431655765), .constant RJ6 266 (858993459), .constant RJ6 267 (252645135)] ++ wsX10)
def wsX1_hush : List Cond := .code yX1_hush cX1_hush 2 none :: ([.fieldLink RX1 27 "FableIndex$Land" "kept" "[I", .fieldLink RX1 21 "FableIndex$Land" "told" "[I", .fieldLink RX1 24 "FableIndex$Land" "allowed" "[I", .fieldLink RX1 30 "FableIndex$Land" "hushed" "I", .static yX2_size, .initialized RX2, .code yX2_size cX2_size 1 (some .int), .methodLink RX2 253 yJ6_bitCount_0f7a4, .static yJ6_bitCount_0f7a4, .initialized RJ6, .code yJ6_bitCount_0f7a4 cJ6_bitCount_0f7a4 1 (some .int), .constant RJ6 265 (1431655765), .constant RJ6 266 (858993459), .constant RJ6 267 (252645135)] ++ wsX10)
def wsX1_arriving : List Cond := .code yX1_arriving cX1_arriving 4 (some .int) :: ([.fieldLink RX1 9 "FableIndex$Land" "ways" "[I", .fieldLink RX1 27 "FableIndex$Land" "kept" "[I", .static yX2_has, .initialized RX2, .code yX2_has cX2_has 2 (some .boolean)] ++ wsX10)
def wsX2_smallestAlone : List Cond := .code yX2_smallestAlone cX2_smallestAlone 1 (some .int) :: ([])
def wsX1_admitted : List Cond := .code yX1_admitted cX1_admitted 7 (some .int) :: ([.fieldLink RX1 24 "FableIndex$Land" "allowed" "[I", .fieldLink RX1 50 "FableIndex$Book" "count" "I", .fieldLink RX1 15 "FableIndex$Land" "bannedMorals" "[I", .fieldLink RX1 38 "FableIndex$Book" "moral" "[I", .fieldLink RX1 79 "FableIndex$Book" "variants" "[I", .static yX2_has, .initialized RX2, .code yX2_has cX2_has 2 (some .boolean), .static yX2_smallestAlone, .code yX2_smallestAlone cX2_smallestAlone 1 (some .int)] ++ wsX10 ++ wsX00)
def wsX1_spread : List Cond := .code yX1_spread cX1_spread 5 (some .boolean) :: ([.fieldLink RX1 27 "FableIndex$Land" "kept" "[I", .fieldLink RX1 21 "FableIndex$Land" "told" "[I", .methodLink RX1 72 yX1_arriving, .instanceMethod yX1_arriving, .selects RX1 yX1_arriving yX1_arriving, .initialized RX1, .code yX1_arriving cX1_arriving 4 (some .int), .fieldLink RX1 9 "FableIndex$Land" "ways" "[I", .static yX2_has, .initialized RX2, .code yX2_has cX2_has 2 (some .boolean), .methodLink RX1 75 yX1_admitted, .instanceMethod yX1_admitted, .selects RX1 yX1_admitted yX1_admitted, .code yX1_admitted cX1_admitted 7 (some .int), .fieldLink RX1 24 "FableIndex$Land" "allowed" "[I", .fieldLink RX1 50 "FableIndex$Book" "count" "I", .fieldLink RX1 15 "FableIndex$Land" "bannedMorals" "[I", .fieldLink RX1 38 "FableIndex$Book" "moral" "[I", .fieldLink RX1 79 "FableIndex$Book" "variants" "[I", .static yX2_smallestAlone, .code yX2_smallestAlone cX2_smallestAlone 1 (some .int)] ++ wsX10 ++ wsX00)
def wsX1_live_r1 : List Cond := [Cond.fieldLink RX1 24 "FableIndex$Land" "allowed" "[I", Cond.methodLink RX1 61 yX1_welcome, Cond.instanceMethod yX1_welcome, Cond.selects RX1 yX1_welcome yX1_welcome, Cond.initialized RX1, Cond.code yX1_welcome cX1_welcome 5 (some .int), Cond.fieldLink RX1 50 "FableIndex$Book" "count" "I", Cond.methodLink RX1 53 yX1_bans, Cond.instanceMethod yX1_bans, Cond.selects RX1 yX1_bans yX1_bans, Cond.code yX1_bans cX1_bans 4 (some .boolean), Cond.fieldLink RX1 15 "FableIndex$Land" "bannedMorals" "[I", Cond.fieldLink RX1 38 "FableIndex$Book" "moral" "[I", Cond.fieldLink RX1 18 "FableIndex$Land" "bannedBeasts" "[I", Cond.fieldLink RX1 47 "FableIndex$Book" "beasts" "[I", Cond.static yX2_has, Cond.initialized RX2, Cond.code yX2_has cX2_has 2 (some .boolean), Cond.methodLink RX1 65 yX1_hush, Cond.instanceMethod yX1_hush, Cond.selects RX1 yX1_hush yX1_hush, Cond.code yX1_hush cX1_hush 2 none, Cond.fieldLink RX1 27 "FableIndex$Land" "kept" "[I", Cond.fieldLink RX1 21 "FableIndex$Land" "told" "[I"]
def wsX1_live_r2 : List Cond := [Cond.fieldLink RX1 30 "FableIndex$Land" "hushed" "I", Cond.static yX2_size, Cond.code yX2_size cX2_size 1 (some .int), Cond.methodLink RX2 253 yJ6_bitCount_0f7a4, Cond.static yJ6_bitCount_0f7a4, Cond.initialized RJ6, Cond.code yJ6_bitCount_0f7a4 cJ6_bitCount_0f7a4 1 (some .int), Cond.constant RJ6 265 (1431655765), Cond.constant RJ6 266 (858993459), Cond.constant RJ6 267 (252645135), Cond.methodLink RX1 68 yX1_spread, Cond.instanceMethod yX1_spread, Cond.selects RX1 yX1_spread yX1_spread, Cond.code yX1_spread cX1_spread 5 (some .boolean), Cond.methodLink RX1 72 yX1_arriving, Cond.instanceMethod yX1_arriving, Cond.selects RX1 yX1_arriving yX1_arriving, Cond.code yX1_arriving cX1_arriving 4 (some .int), Cond.fieldLink RX1 9 "FableIndex$Land" "ways" "[I", Cond.methodLink RX1 75 yX1_admitted, Cond.instanceMethod yX1_admitted, Cond.selects RX1 yX1_admitted yX1_admitted, Cond.code yX1_admitted cX1_admitted 7 (some .int), Cond.fieldLink RX1 79 "FableIndex$Book" "variants" "[I"]
def wsX1_live_r3 : List Cond := [Cond.static yX2_smallestAlone, Cond.code yX2_smallestAlone cX2_smallestAlone 1 (some .int)]
def wsX1_live : List Cond := .code yX1_live cX1_live 5 none :: ((wsX1_live_r1 ++ (wsX1_live_r2 ++ wsX1_live_r3)) ++ wsX10 ++ wsX00)
def wsX2_init_r1 : List Cond := [Cond.methodLink RX2 1 objectInit, Cond.instanceMethod objectInit, Cond.code objectInit ⟨#[0xb1]⟩ 1 none, Cond.classLink RX2 7 RX0, Cond.instantiable RX0 7, Cond.initialized RX0, Cond.fieldLink RX2 10 "FableIndex" "book" "LFableIndex$Book;", Cond.classLink RX2 16 RX1, Cond.instantiable RX1 7, Cond.initialized RX1, Cond.fieldLink RX2 19 "FableIndex" "land" "LFableIndex$Land;", Cond.fieldLink RX2 23 "FableIndex" "trial" "LFableIndex$Land;", Cond.fieldLink RX2 26 "FableIndex" "season" "I", Cond.methodLink RX2 9 yX0_init, Cond.instanceMethod yX0_init, Cond.code yX0_init cX0_init 1 none, Cond.methodLink RX0 3 objectInit, Cond.fieldLink RX0 9 "FableIndex$Book" "count" "I", Cond.arrayClass .int, Cond.fieldLink RX0 15 "FableIndex$Book" "moral" "[I", Cond.fieldLink RX0 19 "FableIndex$Book" "beasts" "[I", Cond.fieldLink RX0 22 "FableIndex$Book" "home" "[I", Cond.fieldLink RX0 25 "FableIndex$Book" "parent" "[I", Cond.fieldLink RX0 28 "FableIndex$Book" "variants" "[I"]
def wsX2_init_r2 : List Cond := [Cond.fieldLink RX0 31 "FableIndex$Book" "ancestors" "[I", Cond.methodLink RX2 18 yX1_init, Cond.instanceMethod yX1_init, Cond.code yX1_init cX1_init 1 none, Cond.methodLink RX1 3 objectInit, Cond.fieldLink RX1 9 "FableIndex$Land" "ways" "[I", Cond.fieldLink RX1 15 "FableIndex$Land" "bannedMorals" "[I", Cond.fieldLink RX1 18 "FableIndex$Land" "bannedBeasts" "[I", Cond.fieldLink RX1 21 "FableIndex$Land" "told" "[I", Cond.fieldLink RX1 24 "FableIndex$Land" "allowed" "[I", Cond.fieldLink RX1 27 "FableIndex$Land" "kept" "[I", Cond.fieldLink RX1 30 "FableIndex$Land" "hushed" "I"]
def wsX2_init : List Cond := .code yX2_init cX2_init 1 none :: ((wsX2_init_r1 ++ wsX2_init_r2) ++ wsX00 ++ wsX20 ++ wsX10)
def wsX2_needMoral : List Cond := .code yX2_needMoral cX2_needMoral 1 none :: ([.classLink RX2 238 "java/lang/IndexOutOfBoundsException", .initialized "java/lang/IndexOutOfBoundsException"] ++ (vx_atS RX2 242 "java/lang/IndexOutOfBoundsException" ["java/lang/RuntimeException", "java/lang/Exception"]).filter goodWord)
def wsX2_needBeast : List Cond := .code yX2_needBeast cX2_needBeast 1 none :: ([.classLink RX2 238 "java/lang/IndexOutOfBoundsException", .initialized "java/lang/IndexOutOfBoundsException"] ++ (vx_atS RX2 242 "java/lang/IndexOutOfBoundsException" ["java/lang/RuntimeException", "java/lang/Exception"]).filter goodWord)
def wsX2_needValley : List Cond := .code yX2_needValley cX2_needValley 1 none :: ([.classLink RX2 238 "java/lang/IndexOutOfBoundsException", .initialized "java/lang/IndexOutOfBoundsException"] ++ (vx_atS RX2 242 "java/lang/IndexOutOfBoundsException" ["java/lang/RuntimeException", "java/lang/Exception"]).filter goodWord)
def wsX2_needFreePage : List Cond := .code yX2_needFreePage cX2_needFreePage 1 none :: ([.classLink RX2 58 "java/lang/IllegalStateException", .initialized "java/lang/IllegalStateException", .fieldLink RX2 10 "FableIndex" "book" "LFableIndex$Book;", .fieldLink RX2 146 "FableIndex$Book" "count" "I"] ++ wsX20 ++ wsX00 ++ (vx_atS RX2 62 "java/lang/IllegalStateException" ["java/lang/RuntimeException", "java/lang/Exception"]).filter goodWord)
def wsX2_addFable_r1 : List Cond := [Cond.fieldLink RX2 10 "FableIndex" "book" "LFableIndex$Book;", Cond.methodLink RX2 30 yX2_needMoral, Cond.static yX2_needMoral, Cond.initialized RX2, Cond.code yX2_needMoral cX2_needMoral 1 none, Cond.classLink RX2 238 "java/lang/IndexOutOfBoundsException", Cond.initialized "java/lang/IndexOutOfBoundsException", Cond.methodLink RX2 34 yX2_needBeast, Cond.static yX2_needBeast, Cond.code yX2_needBeast cX2_needBeast 1 none, Cond.methodLink RX2 37 yX2_needValley, Cond.static yX2_needValley, Cond.code yX2_needValley cX2_needValley 1 none, Cond.methodLink RX2 40 yX2_needFreePage, Cond.instanceMethod yX2_needFreePage, Cond.selects RX2 yX2_needFreePage yX2_needFreePage, Cond.code yX2_needFreePage cX2_needFreePage 1 none, Cond.classLink RX2 58 "java/lang/IllegalStateException", Cond.initialized "java/lang/IllegalStateException", Cond.fieldLink RX2 146 "FableIndex$Book" "count" "I", Cond.methodLink RX2 43 yX0_write, Cond.instanceMethod yX0_write, Cond.selects RX0 yX0_write yX0_write, Cond.initialized RX0]
def wsX2_addFable_r2 : List Cond := [Cond.code yX0_write cX0_write 6 (some .int), Cond.fieldLink RX0 9 "FableIndex$Book" "count" "I", Cond.fieldLink RX0 15 "FableIndex$Book" "moral" "[I", Cond.fieldLink RX0 19 "FableIndex$Book" "beasts" "[I", Cond.fieldLink RX0 22 "FableIndex$Book" "home" "[I", Cond.fieldLink RX0 25 "FableIndex$Book" "parent" "[I", Cond.fieldLink RX0 28 "FableIndex$Book" "variants" "[I", Cond.fieldLink RX0 31 "FableIndex$Book" "ancestors" "[I"]
def wsX2_addFable : List Cond := .code yX2_addFable cX2_addFable 4 (some .int) :: ((wsX2_addFable_r1 ++ wsX2_addFable_r2) ++ wsX20 ++ wsX00 ++ (vx_atS RX2 242 "java/lang/IndexOutOfBoundsException" ["java/lang/RuntimeException", "java/lang/Exception"]).filter goodWord ++ (vx_atS RX2 62 "java/lang/IllegalStateException" ["java/lang/RuntimeException", "java/lang/Exception"]).filter goodWord)
def wsX2_needFable : List Cond := .code yX2_needFable cX2_needFable 2 none :: ([.classLink RX2 238 "java/lang/IndexOutOfBoundsException", .initialized "java/lang/IndexOutOfBoundsException", .fieldLink RX2 10 "FableIndex" "book" "LFableIndex$Book;", .fieldLink RX2 146 "FableIndex$Book" "count" "I"] ++ wsX20 ++ wsX00 ++ (vx_atS RX2 242 "java/lang/IndexOutOfBoundsException" ["java/lang/RuntimeException", "java/lang/Exception"]).filter goodWord)
def wsX2_addBeast_r1 : List Cond := [Cond.classLink RX2 58 "java/lang/IllegalStateException", Cond.initialized "java/lang/IllegalStateException", Cond.fieldLink RX2 10 "FableIndex" "book" "LFableIndex$Book;", Cond.fieldLink RX2 50 "FableIndex$Book" "beasts" "[I", Cond.fieldLink RX2 65 "FableIndex$Book" "variants" "[I", Cond.methodLink RX2 47 yX2_needFable, Cond.instanceMethod yX2_needFable, Cond.selects RX2 yX2_needFable yX2_needFable, Cond.initialized RX2, Cond.code yX2_needFable cX2_needFable 2 none, Cond.classLink RX2 238 "java/lang/IndexOutOfBoundsException", Cond.initialized "java/lang/IndexOutOfBoundsException", Cond.fieldLink RX2 146 "FableIndex$Book" "count" "I", Cond.methodLink RX2 34 yX2_needBeast, Cond.static yX2_needBeast, Cond.code yX2_needBeast cX2_needBeast 1 none, Cond.methodLink RX2 54 yX2_has, Cond.static yX2_has, Cond.code yX2_has cX2_has 2 (some .boolean), Cond.methodLink RX2 70 yX2_size, Cond.static yX2_size, Cond.code yX2_size cX2_size 1 (some .int), Cond.methodLink RX2 253 yJ6_bitCount_0f7a4, Cond.static yJ6_bitCount_0f7a4]
def wsX2_addBeast_r2 : List Cond := [Cond.initialized RJ6, Cond.code yJ6_bitCount_0f7a4 cJ6_bitCount_0f7a4 1 (some .int), Cond.constant RJ6 265 (1431655765), Cond.constant RJ6 266 (858993459), Cond.constant RJ6 267 (252645135)]
def wsX2_addBeast : List Cond := .code yX2_addBeast cX2_addBeast 3 (some .int) :: ((wsX2_addBeast_r1 ++ wsX2_addBeast_r2) ++ wsX20 ++ wsX00 ++ (vx_atS RX2 62 "java/lang/IllegalStateException" ["java/lang/RuntimeException", "java/lang/Exception"]).filter goodWord ++ (vx_atS RX2 242 "java/lang/IndexOutOfBoundsException" ["java/lang/RuntimeException", "java/lang/Exception"]).filter goodWord)
def wsX2_addVariant_r1 : List Cond := [Cond.classLink RX2 58 "java/lang/IllegalStateException", Cond.initialized "java/lang/IllegalStateException", Cond.fieldLink RX2 10 "FableIndex" "book" "LFableIndex$Book;", Cond.fieldLink RX2 50 "FableIndex$Book" "beasts" "[I", Cond.fieldLink RX2 78 "FableIndex$Book" "moral" "[I", Cond.methodLink RX2 47 yX2_needFable, Cond.instanceMethod yX2_needFable, Cond.selects RX2 yX2_needFable yX2_needFable, Cond.initialized RX2, Cond.code yX2_needFable cX2_needFable 2 none, Cond.classLink RX2 238 "java/lang/IndexOutOfBoundsException", Cond.initialized "java/lang/IndexOutOfBoundsException", Cond.fieldLink RX2 146 "FableIndex$Book" "count" "I", Cond.methodLink RX2 34 yX2_needBeast, Cond.static yX2_needBeast, Cond.code yX2_needBeast cX2_needBeast 1 none, Cond.methodLink RX2 37 yX2_needValley, Cond.static yX2_needValley, Cond.code yX2_needValley cX2_needValley 1 none, Cond.methodLink RX2 40 yX2_needFreePage, Cond.instanceMethod yX2_needFreePage, Cond.selects RX2 yX2_needFreePage yX2_needFreePage, Cond.code yX2_needFreePage cX2_needFreePage 1 none, Cond.methodLink RX2 54 yX2_has]
def wsX2_addVariant_r2 : List Cond := [Cond.static yX2_has, Cond.code yX2_has cX2_has 2 (some .boolean), Cond.methodLink RX2 81 yX2_turned, Cond.static yX2_turned, Cond.code yX2_turned cX2_turned 2 (some .int), Cond.methodLink RX2 43 yX0_write, Cond.instanceMethod yX0_write, Cond.selects RX0 yX0_write yX0_write, Cond.initialized RX0, Cond.code yX0_write cX0_write 6 (some .int), Cond.fieldLink RX0 9 "FableIndex$Book" "count" "I", Cond.fieldLink RX0 15 "FableIndex$Book" "moral" "[I", Cond.fieldLink RX0 19 "FableIndex$Book" "beasts" "[I", Cond.fieldLink RX0 22 "FableIndex$Book" "home" "[I", Cond.fieldLink RX0 25 "FableIndex$Book" "parent" "[I", Cond.fieldLink RX0 28 "FableIndex$Book" "variants" "[I", Cond.fieldLink RX0 31 "FableIndex$Book" "ancestors" "[I"]
def wsX2_addVariant : List Cond := .code yX2_addVariant cX2_addVariant 6 (some .int) :: ((wsX2_addVariant_r1 ++ wsX2_addVariant_r2) ++ wsX20 ++ wsX00 ++ (vx_atS RX2 62 "java/lang/IllegalStateException" ["java/lang/RuntimeException", "java/lang/Exception"]).filter goodWord ++ (vx_atS RX2 242 "java/lang/IndexOutOfBoundsException" ["java/lang/RuntimeException", "java/lang/Exception"]).filter goodWord)
def wsX2_turnPass : List Cond := .code yX2_turnPass cX2_turnPass 3 (some .boolean) :: ([.classLink RX2 85 "java/lang/IllegalArgumentException", .initialized "java/lang/IllegalArgumentException", .fieldLink RX2 19 "FableIndex" "land" "LFableIndex$Land;", .fieldLink RX2 94 "FableIndex$Land" "ways" "[I", .methodLink RX2 37 yX2_needValley, .static yX2_needValley, .initialized RX2, .code yX2_needValley cX2_needValley 1 none, .classLink RX2 238 "java/lang/IndexOutOfBoundsException", .initialized "java/lang/IndexOutOfBoundsException", .methodLink RX2 90 yX1_turnWay, .instanceMethod yX1_turnWay, .selects RX1 yX1_turnWay yX1_turnWay, .initialized RX1, .code yX1_turnWay cX1_turnWay 3 none, .fieldLink RX1 9 "FableIndex$Land" "ways" "[I", .static yX2_turned, .code yX2_turned cX2_turned 2 (some .int), .methodLink RX2 54 yX2_has, .static yX2_has, .code yX2_has cX2_has 2 (some .boolean)] ++ wsX20 ++ wsX10 ++ (vx_atS RX2 89 "java/lang/IllegalArgumentException" ["java/lang/RuntimeException", "java/lang/Exception"]).filter goodWord ++ (vx_atS RX2 242 "java/lang/IndexOutOfBoundsException" ["java/lang/RuntimeException", "java/lang/Exception"]).filter goodWord)
def wsX2_turnMoral : List Cond := .code yX2_turnMoral cX2_turnMoral 3 (some .boolean) :: ([.fieldLink RX2 19 "FableIndex" "land" "LFableIndex$Land;", .fieldLink RX2 97 "FableIndex$Land" "bannedMorals" "[I", .methodLink RX2 37 yX2_needValley, .static yX2_needValley, .initialized RX2, .code yX2_needValley cX2_needValley 1 none, .classLink RX2 238 "java/lang/IndexOutOfBoundsException", .initialized "java/lang/IndexOutOfBoundsException", .methodLink RX2 30 yX2_needMoral, .static yX2_needMoral, .code yX2_needMoral cX2_needMoral 1 none, .methodLink RX2 81 yX2_turned, .static yX2_turned, .code yX2_turned cX2_turned 2 (some .int), .methodLink RX2 54 yX2_has, .static yX2_has, .code yX2_has cX2_has 2 (some .boolean)] ++ wsX20 ++ wsX10 ++ (vx_atS RX2 242 "java/lang/IndexOutOfBoundsException" ["java/lang/RuntimeException", "java/lang/Exception"]).filter goodWord)
def wsX2_turnBeast : List Cond := .code yX2_turnBeast cX2_turnBeast 3 (some .boolean) :: ([.fieldLink RX2 19 "FableIndex" "land" "LFableIndex$Land;", .fieldLink RX2 100 "FableIndex$Land" "bannedBeasts" "[I", .methodLink RX2 37 yX2_needValley, .static yX2_needValley, .initialized RX2, .code yX2_needValley cX2_needValley 1 none, .classLink RX2 238 "java/lang/IndexOutOfBoundsException", .initialized "java/lang/IndexOutOfBoundsException", .methodLink RX2 34 yX2_needBeast, .static yX2_needBeast, .code yX2_needBeast cX2_needBeast 1 none, .methodLink RX2 81 yX2_turned, .static yX2_turned, .code yX2_turned cX2_turned 2 (some .int), .methodLink RX2 54 yX2_has, .static yX2_has, .code yX2_has cX2_has 2 (some .boolean)] ++ wsX20 ++ wsX10 ++ (vx_atS RX2 242 "java/lang/IndexOutOfBoundsException" ["java/lang/RuntimeException", "java/lang/Exception"]).filter goodWord)
def wsX2_tell_r1 : List Cond := [Cond.classLink RX2 58 "java/lang/IllegalStateException", Cond.initialized "java/lang/IllegalStateException", Cond.fieldLink RX2 19 "FableIndex" "land" "LFableIndex$Land;", Cond.fieldLink RX2 103 "FableIndex$Land" "told" "[I", Cond.fieldLink RX2 10 "FableIndex" "book" "LFableIndex$Book;", Cond.methodLink RX2 47 yX2_needFable, Cond.instanceMethod yX2_needFable, Cond.selects RX2 yX2_needFable yX2_needFable, Cond.initialized RX2, Cond.code yX2_needFable cX2_needFable 2 none, Cond.classLink RX2 238 "java/lang/IndexOutOfBoundsException", Cond.initialized "java/lang/IndexOutOfBoundsException", Cond.fieldLink RX2 146 "FableIndex$Book" "count" "I", Cond.methodLink RX2 37 yX2_needValley, Cond.static yX2_needValley, Cond.code yX2_needValley cX2_needValley 1 none, Cond.methodLink RX2 54 yX2_has, Cond.static yX2_has, Cond.code yX2_has cX2_has 2 (some .boolean), Cond.methodLink RX2 108 yX1_bans, Cond.instanceMethod yX1_bans, Cond.selects RX1 yX1_bans yX1_bans, Cond.initialized RX1, Cond.code yX1_bans cX1_bans 4 (some .boolean)]
def wsX2_tell_r2 : List Cond := [Cond.fieldLink RX1 15 "FableIndex$Land" "bannedMorals" "[I", Cond.fieldLink RX1 38 "FableIndex$Book" "moral" "[I", Cond.fieldLink RX1 18 "FableIndex$Land" "bannedBeasts" "[I", Cond.fieldLink RX1 47 "FableIndex$Book" "beasts" "[I", Cond.methodLink RX2 114 yX1_count, Cond.instanceMethod yX1_count, Cond.selects RX1 yX1_count yX1_count, Cond.code yX1_count cX1_count 4 (some .int), Cond.fieldLink RX1 21 "FableIndex$Land" "told" "[I", Cond.static yX2_size, Cond.code yX2_size cX2_size 1 (some .int), Cond.methodLink RX2 253 yJ6_bitCount_0f7a4, Cond.static yJ6_bitCount_0f7a4, Cond.initialized RJ6, Cond.code yJ6_bitCount_0f7a4 cJ6_bitCount_0f7a4 1 (some .int), Cond.constant RJ6 265 (1431655765), Cond.constant RJ6 266 (858993459), Cond.constant RJ6 267 (252645135)]
def wsX2_tell : List Cond := .code yX2_tell cX2_tell 3 (some .int) :: ((wsX2_tell_r1 ++ wsX2_tell_r2) ++ wsX20 ++ wsX10 ++ wsX00 ++ (vx_atS RX2 62 "java/lang/IllegalStateException" ["java/lang/RuntimeException", "java/lang/Exception"]).filter goodWord ++ (vx_atS RX2 242 "java/lang/IndexOutOfBoundsException" ["java/lang/RuntimeException", "java/lang/Exception"]).filter goodWord)
def wsX2_forget_r1 : List Cond := [Cond.classLink RX2 58 "java/lang/IllegalStateException", Cond.initialized "java/lang/IllegalStateException", Cond.fieldLink RX2 19 "FableIndex" "land" "LFableIndex$Land;", Cond.fieldLink RX2 103 "FableIndex$Land" "told" "[I", Cond.methodLink RX2 47 yX2_needFable, Cond.instanceMethod yX2_needFable, Cond.selects RX2 yX2_needFable yX2_needFable, Cond.initialized RX2, Cond.code yX2_needFable cX2_needFable 2 none, Cond.classLink RX2 238 "java/lang/IndexOutOfBoundsException", Cond.initialized "java/lang/IndexOutOfBoundsException", Cond.fieldLink RX2 10 "FableIndex" "book" "LFableIndex$Book;", Cond.fieldLink RX2 146 "FableIndex$Book" "count" "I", Cond.methodLink RX2 37 yX2_needValley, Cond.static yX2_needValley, Cond.code yX2_needValley cX2_needValley 1 none, Cond.methodLink RX2 54 yX2_has, Cond.static yX2_has, Cond.code yX2_has cX2_has 2 (some .boolean), Cond.methodLink RX2 81 yX2_turned, Cond.static yX2_turned, Cond.code yX2_turned cX2_turned 2 (some .int), Cond.methodLink RX2 114 yX1_count, Cond.instanceMethod yX1_count]
def wsX2_forget_r2 : List Cond := [Cond.selects RX1 yX1_count yX1_count, Cond.initialized RX1, Cond.code yX1_count cX1_count 4 (some .int), Cond.fieldLink RX1 21 "FableIndex$Land" "told" "[I", Cond.static yX2_size, Cond.code yX2_size cX2_size 1 (some .int), Cond.methodLink RX2 253 yJ6_bitCount_0f7a4, Cond.static yJ6_bitCount_0f7a4, Cond.initialized RJ6, Cond.code yJ6_bitCount_0f7a4 cJ6_bitCount_0f7a4 1 (some .int), Cond.constant RJ6 265 (1431655765), Cond.constant RJ6 266 (858993459), Cond.constant RJ6 267 (252645135)]
def wsX2_forget : List Cond := .code yX2_forget cX2_forget 3 (some .int) :: ((wsX2_forget_r1 ++ wsX2_forget_r2) ++ wsX20 ++ wsX10 ++ wsX00 ++ (vx_atS RX2 62 "java/lang/IllegalStateException" ["java/lang/RuntimeException", "java/lang/Exception"]).filter goodWord ++ (vx_atS RX2 242 "java/lang/IndexOutOfBoundsException" ["java/lang/RuntimeException", "java/lang/Exception"]).filter goodWord)
def wsX2_needSeasons : List Cond := .code yX2_needSeasons cX2_needSeasons 2 none :: ([.classLink RX2 85 "java/lang/IllegalArgumentException", .initialized "java/lang/IllegalArgumentException"] ++ (vx_atS RX2 89 "java/lang/IllegalArgumentException" ["java/lang/RuntimeException", "java/lang/Exception"]).filter goodWord)
def wsX2_passSeasons_r1 : List Cond := [Cond.fieldLink RX2 19 "FableIndex" "land" "LFableIndex$Land;", Cond.fieldLink RX2 10 "FableIndex" "book" "LFableIndex$Book;", Cond.fieldLink RX2 26 "FableIndex" "season" "I", Cond.methodLink RX2 119 yX2_needSeasons, Cond.static yX2_needSeasons, Cond.initialized RX2, Cond.code yX2_needSeasons cX2_needSeasons 2 none, Cond.classLink RX2 85 "java/lang/IllegalArgumentException", Cond.initialized "java/lang/IllegalArgumentException", Cond.methodLink RX2 122 yX1_live, Cond.instanceMethod yX1_live, Cond.selects RX1 yX1_live yX1_live, Cond.initialized RX1, Cond.code yX1_live cX1_live 5 none, Cond.fieldLink RX1 24 "FableIndex$Land" "allowed" "[I", Cond.methodLink RX1 61 yX1_welcome, Cond.instanceMethod yX1_welcome, Cond.selects RX1 yX1_welcome yX1_welcome, Cond.code yX1_welcome cX1_welcome 5 (some .int), Cond.fieldLink RX1 50 "FableIndex$Book" "count" "I", Cond.methodLink RX1 53 yX1_bans, Cond.instanceMethod yX1_bans, Cond.selects RX1 yX1_bans yX1_bans, Cond.code yX1_bans cX1_bans 4 (some .boolean)]
def wsX2_passSeasons_r2 : List Cond := [Cond.fieldLink RX1 15 "FableIndex$Land" "bannedMorals" "[I", Cond.fieldLink RX1 38 "FableIndex$Book" "moral" "[I", Cond.fieldLink RX1 18 "FableIndex$Land" "bannedBeasts" "[I", Cond.fieldLink RX1 47 "FableIndex$Book" "beasts" "[I", Cond.static yX2_has, Cond.code yX2_has cX2_has 2 (some .boolean), Cond.methodLink RX1 65 yX1_hush, Cond.instanceMethod yX1_hush, Cond.selects RX1 yX1_hush yX1_hush, Cond.code yX1_hush cX1_hush 2 none, Cond.fieldLink RX1 27 "FableIndex$Land" "kept" "[I", Cond.fieldLink RX1 21 "FableIndex$Land" "told" "[I", Cond.fieldLink RX1 30 "FableIndex$Land" "hushed" "I", Cond.static yX2_size, Cond.code yX2_size cX2_size 1 (some .int), Cond.methodLink RX2 253 yJ6_bitCount_0f7a4, Cond.static yJ6_bitCount_0f7a4, Cond.initialized RJ6, Cond.code yJ6_bitCount_0f7a4 cJ6_bitCount_0f7a4 1 (some .int), Cond.constant RJ6 265 (1431655765), Cond.constant RJ6 266 (858993459), Cond.constant RJ6 267 (252645135), Cond.methodLink RX1 68 yX1_spread, Cond.instanceMethod yX1_spread]
def wsX2_passSeasons_r3 : List Cond := [Cond.selects RX1 yX1_spread yX1_spread, Cond.code yX1_spread cX1_spread 5 (some .boolean), Cond.methodLink RX1 72 yX1_arriving, Cond.instanceMethod yX1_arriving, Cond.selects RX1 yX1_arriving yX1_arriving, Cond.code yX1_arriving cX1_arriving 4 (some .int), Cond.fieldLink RX1 9 "FableIndex$Land" "ways" "[I", Cond.methodLink RX1 75 yX1_admitted, Cond.instanceMethod yX1_admitted, Cond.selects RX1 yX1_admitted yX1_admitted, Cond.code yX1_admitted cX1_admitted 7 (some .int), Cond.fieldLink RX1 79 "FableIndex$Book" "variants" "[I", Cond.static yX2_smallestAlone, Cond.code yX2_smallestAlone cX2_smallestAlone 1 (some .int), Cond.methodLink RX2 126 yX0_all, Cond.instanceMethod yX0_all, Cond.selects RX0 yX0_all yX0_all, Cond.initialized RX0, Cond.code yX0_all cX0_all 1 (some .int), Cond.fieldLink RX0 9 "FableIndex$Book" "count" "I", Cond.methodLink RX2 114 yX1_count, Cond.instanceMethod yX1_count, Cond.selects RX1 yX1_count yX1_count, Cond.code yX1_count cX1_count 4 (some .int)]
def wsX2_passSeasons : List Cond := .code yX2_passSeasons cX2_passSeasons 2 (some .int) :: ((wsX2_passSeasons_r1 ++ (wsX2_passSeasons_r2 ++ wsX2_passSeasons_r3)) ++ wsX20 ++ wsX10 ++ wsX00 ++ (vx_atS RX2 89 "java/lang/IllegalArgumentException" ["java/lang/RuntimeException", "java/lang/Exception"]).filter goodWord)
def wsX2_moralOf : List Cond := .code yX2_moralOf cX2_moralOf 2 (some .int) :: ([.fieldLink RX2 10 "FableIndex" "book" "LFableIndex$Book;", .fieldLink RX2 78 "FableIndex$Book" "moral" "[I", .methodLink RX2 47 yX2_needFable, .instanceMethod yX2_needFable, .selects RX2 yX2_needFable yX2_needFable, .initialized RX2, .code yX2_needFable cX2_needFable 2 none, .classLink RX2 238 "java/lang/IndexOutOfBoundsException", .initialized "java/lang/IndexOutOfBoundsException", .fieldLink RX2 146 "FableIndex$Book" "count" "I"] ++ wsX20 ++ wsX00 ++ (vx_atS RX2 242 "java/lang/IndexOutOfBoundsException" ["java/lang/RuntimeException", "java/lang/Exception"]).filter goodWord)
def wsX2_beastsOf : List Cond := .code yX2_beastsOf cX2_beastsOf 2 (some .int) :: ([.fieldLink RX2 10 "FableIndex" "book" "LFableIndex$Book;", .fieldLink RX2 50 "FableIndex$Book" "beasts" "[I", .methodLink RX2 47 yX2_needFable, .instanceMethod yX2_needFable, .selects RX2 yX2_needFable yX2_needFable, .initialized RX2, .code yX2_needFable cX2_needFable 2 none, .classLink RX2 238 "java/lang/IndexOutOfBoundsException", .initialized "java/lang/IndexOutOfBoundsException", .fieldLink RX2 146 "FableIndex$Book" "count" "I", .methodLink RX2 70 yX2_size, .static yX2_size, .code yX2_size cX2_size 1 (some .int), .methodLink RX2 253 yJ6_bitCount_0f7a4, .static yJ6_bitCount_0f7a4, .initialized RJ6, .code yJ6_bitCount_0f7a4 cJ6_bitCount_0f7a4 1 (some .int), .constant RJ6 265 (1431655765), .constant RJ6 266 (858993459), .constant RJ6 267 (252645135)] ++ wsX20 ++ wsX00 ++ (vx_atS RX2 242 "java/lang/IndexOutOfBoundsException" ["java/lang/RuntimeException", "java/lang/Exception"]).filter goodWord)
def wsX2_hasBeast : List Cond := .code yX2_hasBeast cX2_hasBeast 3 (some .boolean) :: ([.fieldLink RX2 10 "FableIndex" "book" "LFableIndex$Book;", .fieldLink RX2 50 "FableIndex$Book" "beasts" "[I", .methodLink RX2 47 yX2_needFable, .instanceMethod yX2_needFable, .selects RX2 yX2_needFable yX2_needFable, .initialized RX2, .code yX2_needFable cX2_needFable 2 none, .classLink RX2 238 "java/lang/IndexOutOfBoundsException", .initialized "java/lang/IndexOutOfBoundsException", .fieldLink RX2 146 "FableIndex$Book" "count" "I", .methodLink RX2 34 yX2_needBeast, .static yX2_needBeast, .code yX2_needBeast cX2_needBeast 1 none, .methodLink RX2 54 yX2_has, .static yX2_has, .code yX2_has cX2_has 2 (some .boolean)] ++ wsX20 ++ wsX00 ++ (vx_atS RX2 242 "java/lang/IndexOutOfBoundsException" ["java/lang/RuntimeException", "java/lang/Exception"]).filter goodWord)
def wsX2_homeOf : List Cond := .code yX2_homeOf cX2_homeOf 2 (some .int) :: ([.fieldLink RX2 10 "FableIndex" "book" "LFableIndex$Book;", .fieldLink RX2 130 "FableIndex$Book" "home" "[I", .methodLink RX2 47 yX2_needFable, .instanceMethod yX2_needFable, .selects RX2 yX2_needFable yX2_needFable, .initialized RX2, .code yX2_needFable cX2_needFable 2 none, .classLink RX2 238 "java/lang/IndexOutOfBoundsException", .initialized "java/lang/IndexOutOfBoundsException", .fieldLink RX2 146 "FableIndex$Book" "count" "I"] ++ wsX20 ++ wsX00 ++ (vx_atS RX2 242 "java/lang/IndexOutOfBoundsException" ["java/lang/RuntimeException", "java/lang/Exception"]).filter goodWord)
def wsX2_parentOf : List Cond := .code yX2_parentOf cX2_parentOf 2 (some .int) :: ([.fieldLink RX2 10 "FableIndex" "book" "LFableIndex$Book;", .fieldLink RX2 133 "FableIndex$Book" "parent" "[I", .methodLink RX2 47 yX2_needFable, .instanceMethod yX2_needFable, .selects RX2 yX2_needFable yX2_needFable, .initialized RX2, .code yX2_needFable cX2_needFable 2 none, .classLink RX2 238 "java/lang/IndexOutOfBoundsException", .initialized "java/lang/IndexOutOfBoundsException", .fieldLink RX2 146 "FableIndex$Book" "count" "I"] ++ wsX20 ++ wsX00 ++ (vx_atS RX2 242 "java/lang/IndexOutOfBoundsException" ["java/lang/RuntimeException", "java/lang/Exception"]).filter goodWord)
def wsX2_variantsOf : List Cond := .code yX2_variantsOf cX2_variantsOf 2 (some .int) :: ([.fieldLink RX2 10 "FableIndex" "book" "LFableIndex$Book;", .fieldLink RX2 65 "FableIndex$Book" "variants" "[I", .methodLink RX2 47 yX2_needFable, .instanceMethod yX2_needFable, .selects RX2 yX2_needFable yX2_needFable, .initialized RX2, .code yX2_needFable cX2_needFable 2 none, .classLink RX2 238 "java/lang/IndexOutOfBoundsException", .initialized "java/lang/IndexOutOfBoundsException", .fieldLink RX2 146 "FableIndex$Book" "count" "I", .methodLink RX2 70 yX2_size, .static yX2_size, .code yX2_size cX2_size 1 (some .int), .methodLink RX2 253 yJ6_bitCount_0f7a4, .static yJ6_bitCount_0f7a4, .initialized RJ6, .code yJ6_bitCount_0f7a4 cJ6_bitCount_0f7a4 1 (some .int), .constant RJ6 265 (1431655765), .constant RJ6 266 (858993459), .constant RJ6 267 (252645135)] ++ wsX20 ++ wsX00 ++ (vx_atS RX2 242 "java/lang/IndexOutOfBoundsException" ["java/lang/RuntimeException", "java/lang/Exception"]).filter goodWord)
def wsX2_valleysOf_r1 : List Cond := [Cond.fieldLink RX2 19 "FableIndex" "land" "LFableIndex$Land;", Cond.methodLink RX2 47 yX2_needFable, Cond.instanceMethod yX2_needFable, Cond.selects RX2 yX2_needFable yX2_needFable, Cond.initialized RX2, Cond.code yX2_needFable cX2_needFable 2 none, Cond.classLink RX2 238 "java/lang/IndexOutOfBoundsException", Cond.initialized "java/lang/IndexOutOfBoundsException", Cond.fieldLink RX2 10 "FableIndex" "book" "LFableIndex$Book;", Cond.fieldLink RX2 146 "FableIndex$Book" "count" "I", Cond.methodLink RX2 114 yX1_count, Cond.instanceMethod yX1_count, Cond.selects RX1 yX1_count yX1_count, Cond.initialized RX1, Cond.code yX1_count cX1_count 4 (some .int), Cond.fieldLink RX1 21 "FableIndex$Land" "told" "[I", Cond.static yX2_size, Cond.code yX2_size cX2_size 1 (some .int), Cond.methodLink RX2 253 yJ6_bitCount_0f7a4, Cond.static yJ6_bitCount_0f7a4, Cond.initialized RJ6, Cond.code yJ6_bitCount_0f7a4 cJ6_bitCount_0f7a4 1 (some .int), Cond.constant RJ6 265 (1431655765), Cond.constant RJ6 266 (858993459)]
def wsX2_valleysOf_r2 : List Cond := [Cond.constant RJ6 267 (252645135)]
def wsX2_valleysOf : List Cond := .code yX2_valleysOf cX2_valleysOf 2 (some .int) :: ((wsX2_valleysOf_r1 ++ wsX2_valleysOf_r2) ++ wsX20 ++ wsX00 ++ wsX10 ++ (vx_atS RX2 242 "java/lang/IndexOutOfBoundsException" ["java/lang/RuntimeException", "java/lang/Exception"]).filter goodWord)
def wsX2_greatest : List Cond := .code yX2_greatest cX2_greatest 2 (some .int) :: ([.methodLink RX2 54 yX2_has, .static yX2_has, .initialized RX2, .code yX2_has cX2_has 2 (some .boolean)])
def wsX2_nearestAncestor : List Cond := .code yX2_nearestAncestor cX2_nearestAncestor 3 (some .int) :: ([.fieldLink RX2 10 "FableIndex" "book" "LFableIndex$Book;", .fieldLink RX2 136 "FableIndex$Book" "ancestors" "[I", .methodLink RX2 47 yX2_needFable, .instanceMethod yX2_needFable, .selects RX2 yX2_needFable yX2_needFable, .initialized RX2, .code yX2_needFable cX2_needFable 2 none, .classLink RX2 238 "java/lang/IndexOutOfBoundsException", .initialized "java/lang/IndexOutOfBoundsException", .fieldLink RX2 146 "FableIndex$Book" "count" "I", .methodLink RX2 139 yX2_greatest, .static yX2_greatest, .code yX2_greatest cX2_greatest 2 (some .int), .methodLink RX2 54 yX2_has, .static yX2_has, .code yX2_has cX2_has 2 (some .boolean)] ++ wsX20 ++ wsX00 ++ (vx_atS RX2 242 "java/lang/IndexOutOfBoundsException" ["java/lang/RuntimeException", "java/lang/Exception"]).filter goodWord)
def wsX2_kinship : List Cond := .code yX2_kinship cX2_kinship 3 (some .int) :: ([.fieldLink RX2 10 "FableIndex" "book" "LFableIndex$Book;", .fieldLink RX2 136 "FableIndex$Book" "ancestors" "[I", .methodLink RX2 47 yX2_needFable, .instanceMethod yX2_needFable, .selects RX2 yX2_needFable yX2_needFable, .initialized RX2, .code yX2_needFable cX2_needFable 2 none, .classLink RX2 238 "java/lang/IndexOutOfBoundsException", .initialized "java/lang/IndexOutOfBoundsException", .fieldLink RX2 146 "FableIndex$Book" "count" "I", .methodLink RX2 70 yX2_size, .static yX2_size, .code yX2_size cX2_size 1 (some .int), .methodLink RX2 253 yJ6_bitCount_0f7a4, .static yJ6_bitCount_0f7a4, .initialized RJ6, .code yJ6_bitCount_0f7a4 cJ6_bitCount_0f7a4 1 (some .int), .constant RJ6 265 (1431655765), .constant RJ6 266 (858993459), .constant RJ6 267 (252645135)] ++ wsX20 ++ wsX00 ++ (vx_atS RX2 242 "java/lang/IndexOutOfBoundsException" ["java/lang/RuntimeException", "java/lang/Exception"]).filter goodWord)
def wsX2_sharedBeasts : List Cond := .code yX2_sharedBeasts cX2_sharedBeasts 3 (some .int) :: ([.fieldLink RX2 10 "FableIndex" "book" "LFableIndex$Book;", .fieldLink RX2 50 "FableIndex$Book" "beasts" "[I", .methodLink RX2 47 yX2_needFable, .instanceMethod yX2_needFable, .selects RX2 yX2_needFable yX2_needFable, .initialized RX2, .code yX2_needFable cX2_needFable 2 none, .classLink RX2 238 "java/lang/IndexOutOfBoundsException", .initialized "java/lang/IndexOutOfBoundsException", .fieldLink RX2 146 "FableIndex$Book" "count" "I", .methodLink RX2 70 yX2_size, .static yX2_size, .code yX2_size cX2_size 1 (some .int), .methodLink RX2 253 yJ6_bitCount_0f7a4, .static yJ6_bitCount_0f7a4, .initialized RJ6, .code yJ6_bitCount_0f7a4 cJ6_bitCount_0f7a4 1 (some .int), .constant RJ6 265 (1431655765), .constant RJ6 266 (858993459), .constant RJ6 267 (252645135)] ++ wsX20 ++ wsX00 ++ (vx_atS RX2 242 "java/lang/IndexOutOfBoundsException" ["java/lang/RuntimeException", "java/lang/Exception"]).filter goodWord)
def wsX2_isOpen : List Cond := .code yX2_isOpen cX2_isOpen 3 (some .boolean) :: ([.fieldLink RX2 19 "FableIndex" "land" "LFableIndex$Land;", .fieldLink RX2 94 "FableIndex$Land" "ways" "[I", .methodLink RX2 37 yX2_needValley, .static yX2_needValley, .initialized RX2, .code yX2_needValley cX2_needValley 1 none, .classLink RX2 238 "java/lang/IndexOutOfBoundsException", .initialized "java/lang/IndexOutOfBoundsException", .methodLink RX2 54 yX2_has, .static yX2_has, .code yX2_has cX2_has 2 (some .boolean)] ++ wsX20 ++ wsX10 ++ (vx_atS RX2 242 "java/lang/IndexOutOfBoundsException" ["java/lang/RuntimeException", "java/lang/Exception"]).filter goodWord)
def wsX2_isBanned : List Cond := .code yX2_isBanned cX2_isBanned 3 (some .boolean) :: ([.fieldLink RX2 19 "FableIndex" "land" "LFableIndex$Land;", .fieldLink RX2 10 "FableIndex" "book" "LFableIndex$Book;", .methodLink RX2 47 yX2_needFable, .instanceMethod yX2_needFable, .selects RX2 yX2_needFable yX2_needFable, .initialized RX2, .code yX2_needFable cX2_needFable 2 none, .classLink RX2 238 "java/lang/IndexOutOfBoundsException", .initialized "java/lang/IndexOutOfBoundsException", .fieldLink RX2 146 "FableIndex$Book" "count" "I", .methodLink RX2 37 yX2_needValley, .static yX2_needValley, .code yX2_needValley cX2_needValley 1 none, .methodLink RX2 108 yX1_bans, .instanceMethod yX1_bans, .selects RX1 yX1_bans yX1_bans, .initialized RX1, .code yX1_bans cX1_bans 4 (some .boolean), .fieldLink RX1 15 "FableIndex$Land" "bannedMorals" "[I", .fieldLink RX1 38 "FableIndex$Book" "moral" "[I", .fieldLink RX1 18 "FableIndex$Land" "bannedBeasts" "[I", .fieldLink RX1 47 "FableIndex$Book" "beasts" "[I", .static yX2_has, .code yX2_has cX2_has 2 (some .boolean)] ++ wsX20 ++ wsX00 ++ wsX10 ++ (vx_atS RX2 242 "java/lang/IndexOutOfBoundsException" ["java/lang/RuntimeException", "java/lang/Exception"]).filter goodWord)
def wsX2_isTold : List Cond := .code yX2_isTold cX2_isTold 3 (some .boolean) :: ([.fieldLink RX2 19 "FableIndex" "land" "LFableIndex$Land;", .fieldLink RX2 103 "FableIndex$Land" "told" "[I", .methodLink RX2 47 yX2_needFable, .instanceMethod yX2_needFable, .selects RX2 yX2_needFable yX2_needFable, .initialized RX2, .code yX2_needFable cX2_needFable 2 none, .classLink RX2 238 "java/lang/IndexOutOfBoundsException", .initialized "java/lang/IndexOutOfBoundsException", .fieldLink RX2 10 "FableIndex" "book" "LFableIndex$Book;", .fieldLink RX2 146 "FableIndex$Book" "count" "I", .methodLink RX2 37 yX2_needValley, .static yX2_needValley, .code yX2_needValley cX2_needValley 1 none, .methodLink RX2 54 yX2_has, .static yX2_has, .code yX2_has cX2_has 2 (some .boolean)] ++ wsX20 ++ wsX10 ++ wsX00 ++ (vx_atS RX2 242 "java/lang/IndexOutOfBoundsException" ["java/lang/RuntimeException", "java/lang/Exception"]).filter goodWord)
def wsX2_toldIn : List Cond := .code yX2_toldIn cX2_toldIn 2 (some .int) :: ([.fieldLink RX2 19 "FableIndex" "land" "LFableIndex$Land;", .fieldLink RX2 103 "FableIndex$Land" "told" "[I", .methodLink RX2 37 yX2_needValley, .static yX2_needValley, .initialized RX2, .code yX2_needValley cX2_needValley 1 none, .classLink RX2 238 "java/lang/IndexOutOfBoundsException", .initialized "java/lang/IndexOutOfBoundsException", .methodLink RX2 70 yX2_size, .static yX2_size, .code yX2_size cX2_size 1 (some .int), .methodLink RX2 253 yJ6_bitCount_0f7a4, .static yJ6_bitCount_0f7a4, .initialized RJ6, .code yJ6_bitCount_0f7a4 cJ6_bitCount_0f7a4 1 (some .int), .constant RJ6 265 (1431655765), .constant RJ6 266 (858993459), .constant RJ6 267 (252645135)] ++ wsX20 ++ wsX10 ++ (vx_atS RX2 242 "java/lang/IndexOutOfBoundsException" ["java/lang/RuntimeException", "java/lang/Exception"]).filter goodWord)
def wsX2_allowedIn_r1 : List Cond := [Cond.fieldLink RX2 19 "FableIndex" "land" "LFableIndex$Land;", Cond.fieldLink RX2 10 "FableIndex" "book" "LFableIndex$Book;", Cond.methodLink RX2 37 yX2_needValley, Cond.static yX2_needValley, Cond.initialized RX2, Cond.code yX2_needValley cX2_needValley 1 none, Cond.classLink RX2 238 "java/lang/IndexOutOfBoundsException", Cond.initialized "java/lang/IndexOutOfBoundsException", Cond.methodLink RX2 142 yX1_welcome, Cond.instanceMethod yX1_welcome, Cond.selects RX1 yX1_welcome yX1_welcome, Cond.initialized RX1, Cond.code yX1_welcome cX1_welcome 5 (some .int), Cond.fieldLink RX1 50 "FableIndex$Book" "count" "I", Cond.methodLink RX1 53 yX1_bans, Cond.instanceMethod yX1_bans, Cond.selects RX1 yX1_bans yX1_bans, Cond.code yX1_bans cX1_bans 4 (some .boolean), Cond.fieldLink RX1 15 "FableIndex$Land" "bannedMorals" "[I", Cond.fieldLink RX1 38 "FableIndex$Book" "moral" "[I", Cond.fieldLink RX1 18 "FableIndex$Land" "bannedBeasts" "[I", Cond.fieldLink RX1 47 "FableIndex$Book" "beasts" "[I", Cond.static yX2_has, Cond.code yX2_has cX2_has 2 (some .boolean)]
def wsX2_allowedIn_r2 : List Cond := [Cond.methodLink RX2 70 yX2_size, Cond.static yX2_size, Cond.code yX2_size cX2_size 1 (some .int), Cond.methodLink RX2 253 yJ6_bitCount_0f7a4, Cond.static yJ6_bitCount_0f7a4, Cond.initialized RJ6, Cond.code yJ6_bitCount_0f7a4 cJ6_bitCount_0f7a4 1 (some .int), Cond.constant RJ6 265 (1431655765), Cond.constant RJ6 266 (858993459), Cond.constant RJ6 267 (252645135)]
def wsX2_allowedIn : List Cond := .code yX2_allowedIn cX2_allowedIn 2 (some .int) :: ((wsX2_allowedIn_r1 ++ wsX2_allowedIn_r2) ++ wsX20 ++ wsX00 ++ wsX10 ++ (vx_atS RX2 242 "java/lang/IndexOutOfBoundsException" ["java/lang/RuntimeException", "java/lang/Exception"]).filter goodWord)
def wsX2_bansOf : List Cond := .code yX2_bansOf cX2_bansOf 2 (some .int) :: ([.fieldLink RX2 19 "FableIndex" "land" "LFableIndex$Land;", .fieldLink RX2 97 "FableIndex$Land" "bannedMorals" "[I", .fieldLink RX2 100 "FableIndex$Land" "bannedBeasts" "[I", .methodLink RX2 37 yX2_needValley, .static yX2_needValley, .initialized RX2, .code yX2_needValley cX2_needValley 1 none, .classLink RX2 238 "java/lang/IndexOutOfBoundsException", .initialized "java/lang/IndexOutOfBoundsException", .methodLink RX2 70 yX2_size, .static yX2_size, .code yX2_size cX2_size 1 (some .int), .methodLink RX2 253 yJ6_bitCount_0f7a4, .static yJ6_bitCount_0f7a4, .initialized RJ6, .code yJ6_bitCount_0f7a4 cJ6_bitCount_0f7a4 1 (some .int), .constant RJ6 265 (1431655765), .constant RJ6 266 (858993459), .constant RJ6 267 (252645135)] ++ wsX20 ++ wsX10 ++ (vx_atS RX2 242 "java/lang/IndexOutOfBoundsException" ["java/lang/RuntimeException", "java/lang/Exception"]).filter goodWord)
def wsX2_fables : List Cond := .code yX2_fables cX2_fables 1 (some .int) :: ([.fieldLink RX2 10 "FableIndex" "book" "LFableIndex$Book;", .fieldLink RX2 146 "FableIndex$Book" "count" "I"] ++ wsX20 ++ wsX00)
def wsX2_season : List Cond := .code yX2_season cX2_season 1 (some .int) :: ([.fieldLink RX2 26 "FableIndex" "season" "I"] ++ wsX20)
def wsX2_tellings : List Cond := .code yX2_tellings cX2_tellings 1 (some .int) :: ([.fieldLink RX2 19 "FableIndex" "land" "LFableIndex$Land;", .fieldLink RX2 10 "FableIndex" "book" "LFableIndex$Book;", .methodLink RX2 126 yX0_all, .instanceMethod yX0_all, .selects RX0 yX0_all yX0_all, .initialized RX0, .code yX0_all cX0_all 1 (some .int), .fieldLink RX0 9 "FableIndex$Book" "count" "I", .methodLink RX2 114 yX1_count, .instanceMethod yX1_count, .selects RX1 yX1_count yX1_count, .initialized RX1, .code yX1_count cX1_count 4 (some .int), .fieldLink RX1 21 "FableIndex$Land" "told" "[I", .static yX2_size, .initialized RX2, .code yX2_size cX2_size 1 (some .int), .methodLink RX2 253 yJ6_bitCount_0f7a4, .static yJ6_bitCount_0f7a4, .initialized RJ6, .code yJ6_bitCount_0f7a4 cJ6_bitCount_0f7a4 1 (some .int), .constant RJ6 265 (1431655765), .constant RJ6 266 (858993459), .constant RJ6 267 (252645135)] ++ wsX20 ++ wsX00 ++ wsX10)
def wsX2_silenced : List Cond := .code yX2_silenced cX2_silenced 1 (some .int) :: ([.fieldLink RX2 19 "FableIndex" "land" "LFableIndex$Land;", .fieldLink RX2 148 "FableIndex$Land" "hushed" "I"] ++ wsX20 ++ wsX10)
def wsX2_fablesWithMoral : List Cond := .code yX2_fablesWithMoral cX2_fablesWithMoral 2 (some .int) :: ([.fieldLink RX2 10 "FableIndex" "book" "LFableIndex$Book;", .methodLink RX2 30 yX2_needMoral, .static yX2_needMoral, .initialized RX2, .code yX2_needMoral cX2_needMoral 1 none, .classLink RX2 238 "java/lang/IndexOutOfBoundsException", .initialized "java/lang/IndexOutOfBoundsException", .methodLink RX2 151 yX0_withMoral, .instanceMethod yX0_withMoral, .selects RX0 yX0_withMoral yX0_withMoral, .initialized RX0, .code yX0_withMoral cX0_withMoral 4 (some .int), .fieldLink RX0 9 "FableIndex$Book" "count" "I", .fieldLink RX0 15 "FableIndex$Book" "moral" "[I", .methodLink RX2 70 yX2_size, .static yX2_size, .code yX2_size cX2_size 1 (some .int), .methodLink RX2 253 yJ6_bitCount_0f7a4, .static yJ6_bitCount_0f7a4, .initialized RJ6, .code yJ6_bitCount_0f7a4 cJ6_bitCount_0f7a4 1 (some .int), .constant RJ6 265 (1431655765), .constant RJ6 266 (858993459), .constant RJ6 267 (252645135)] ++ wsX20 ++ wsX00 ++ (vx_atS RX2 242 "java/lang/IndexOutOfBoundsException" ["java/lang/RuntimeException", "java/lang/Exception"]).filter goodWord)
def wsX2_fablesWithBeast_r1 : List Cond := [Cond.fieldLink RX2 10 "FableIndex" "book" "LFableIndex$Book;", Cond.methodLink RX2 34 yX2_needBeast, Cond.static yX2_needBeast, Cond.initialized RX2, Cond.code yX2_needBeast cX2_needBeast 1 none, Cond.classLink RX2 238 "java/lang/IndexOutOfBoundsException", Cond.initialized "java/lang/IndexOutOfBoundsException", Cond.methodLink RX2 154 yX0_withBeast, Cond.instanceMethod yX0_withBeast, Cond.selects RX0 yX0_withBeast yX0_withBeast, Cond.initialized RX0, Cond.code yX0_withBeast cX0_withBeast 4 (some .int), Cond.fieldLink RX0 9 "FableIndex$Book" "count" "I", Cond.fieldLink RX0 19 "FableIndex$Book" "beasts" "[I", Cond.static yX2_has, Cond.code yX2_has cX2_has 2 (some .boolean), Cond.methodLink RX2 70 yX2_size, Cond.static yX2_size, Cond.code yX2_size cX2_size 1 (some .int), Cond.methodLink RX2 253 yJ6_bitCount_0f7a4, Cond.static yJ6_bitCount_0f7a4, Cond.initialized RJ6, Cond.code yJ6_bitCount_0f7a4 cJ6_bitCount_0f7a4 1 (some .int), Cond.constant RJ6 265 (1431655765)]
def wsX2_fablesWithBeast_r2 : List Cond := [Cond.constant RJ6 266 (858993459), Cond.constant RJ6 267 (252645135)]
def wsX2_fablesWithBeast : List Cond := .code yX2_fablesWithBeast cX2_fablesWithBeast 2 (some .int) :: ((wsX2_fablesWithBeast_r1 ++ wsX2_fablesWithBeast_r2) ++ wsX20 ++ wsX00 ++ (vx_atS RX2 242 "java/lang/IndexOutOfBoundsException" ["java/lang/RuntimeException", "java/lang/Exception"]).filter goodWord)
def wsX2_favouriteMoral_r1 : List Cond := [Cond.fieldLink RX2 19 "FableIndex" "land" "LFableIndex$Land;", Cond.fieldLink RX2 10 "FableIndex" "book" "LFableIndex$Book;", Cond.methodLink RX2 151 yX0_withMoral, Cond.instanceMethod yX0_withMoral, Cond.selects RX0 yX0_withMoral yX0_withMoral, Cond.initialized RX0, Cond.code yX0_withMoral cX0_withMoral 4 (some .int), Cond.fieldLink RX0 9 "FableIndex$Book" "count" "I", Cond.fieldLink RX0 15 "FableIndex$Book" "moral" "[I", Cond.methodLink RX2 114 yX1_count, Cond.instanceMethod yX1_count, Cond.selects RX1 yX1_count yX1_count, Cond.initialized RX1, Cond.code yX1_count cX1_count 4 (some .int), Cond.fieldLink RX1 21 "FableIndex$Land" "told" "[I", Cond.static yX2_size, Cond.initialized RX2, Cond.code yX2_size cX2_size 1 (some .int), Cond.methodLink RX2 253 yJ6_bitCount_0f7a4, Cond.static yJ6_bitCount_0f7a4, Cond.initialized RJ6, Cond.code yJ6_bitCount_0f7a4 cJ6_bitCount_0f7a4 1 (some .int), Cond.constant RJ6 265 (1431655765), Cond.constant RJ6 266 (858993459)]
def wsX2_favouriteMoral_r2 : List Cond := [Cond.constant RJ6 267 (252645135)]
def wsX2_favouriteMoral : List Cond := .code yX2_favouriteMoral cX2_favouriteMoral 5 (some .int) :: ((wsX2_favouriteMoral_r1 ++ wsX2_favouriteMoral_r2) ++ wsX20 ++ wsX00 ++ wsX10)
def wsX2_favouriteBeast_r1 : List Cond := [Cond.fieldLink RX2 19 "FableIndex" "land" "LFableIndex$Land;", Cond.fieldLink RX2 10 "FableIndex" "book" "LFableIndex$Book;", Cond.methodLink RX2 154 yX0_withBeast, Cond.instanceMethod yX0_withBeast, Cond.selects RX0 yX0_withBeast yX0_withBeast, Cond.initialized RX0, Cond.code yX0_withBeast cX0_withBeast 4 (some .int), Cond.fieldLink RX0 9 "FableIndex$Book" "count" "I", Cond.fieldLink RX0 19 "FableIndex$Book" "beasts" "[I", Cond.static yX2_has, Cond.initialized RX2, Cond.code yX2_has cX2_has 2 (some .boolean), Cond.methodLink RX2 114 yX1_count, Cond.instanceMethod yX1_count, Cond.selects RX1 yX1_count yX1_count, Cond.initialized RX1, Cond.code yX1_count cX1_count 4 (some .int), Cond.fieldLink RX1 21 "FableIndex$Land" "told" "[I", Cond.static yX2_size, Cond.code yX2_size cX2_size 1 (some .int), Cond.methodLink RX2 253 yJ6_bitCount_0f7a4, Cond.static yJ6_bitCount_0f7a4, Cond.initialized RJ6, Cond.code yJ6_bitCount_0f7a4 cJ6_bitCount_0f7a4 1 (some .int)]
def wsX2_favouriteBeast_r2 : List Cond := [Cond.constant RJ6 265 (1431655765), Cond.constant RJ6 266 (858993459), Cond.constant RJ6 267 (252645135)]
def wsX2_favouriteBeast : List Cond := .code yX2_favouriteBeast cX2_favouriteBeast 5 (some .int) :: ((wsX2_favouriteBeast_r1 ++ wsX2_favouriteBeast_r2) ++ wsX20 ++ wsX00 ++ wsX10)
def wsX2_seasonsUntil_r1 : List Cond := [Cond.fieldLink RX2 23 "FableIndex" "trial" "LFableIndex$Land;", Cond.fieldLink RX2 19 "FableIndex" "land" "LFableIndex$Land;", Cond.fieldLink RX2 103 "FableIndex$Land" "told" "[I", Cond.fieldLink RX2 10 "FableIndex" "book" "LFableIndex$Book;", Cond.methodLink RX2 47 yX2_needFable, Cond.instanceMethod yX2_needFable, Cond.selects RX2 yX2_needFable yX2_needFable, Cond.initialized RX2, Cond.code yX2_needFable cX2_needFable 2 none, Cond.classLink RX2 238 "java/lang/IndexOutOfBoundsException", Cond.initialized "java/lang/IndexOutOfBoundsException", Cond.fieldLink RX2 146 "FableIndex$Book" "count" "I", Cond.methodLink RX2 37 yX2_needValley, Cond.static yX2_needValley, Cond.code yX2_needValley cX2_needValley 1 none, Cond.methodLink RX2 157 yX1_become, Cond.instanceMethod yX1_become, Cond.selects RX1 yX1_become yX1_become, Cond.initialized RX1, Cond.code yX1_become cX1_become 3 none, Cond.fieldLink RX1 9 "FableIndex$Land" "ways" "[I", Cond.fieldLink RX1 15 "FableIndex$Land" "bannedMorals" "[I", Cond.fieldLink RX1 18 "FableIndex$Land" "bannedBeasts" "[I", Cond.fieldLink RX1 21 "FableIndex$Land" "told" "[I"]
def wsX2_seasonsUntil_r2 : List Cond := [Cond.fieldLink RX1 30 "FableIndex$Land" "hushed" "I", Cond.methodLink RX2 54 yX2_has, Cond.static yX2_has, Cond.code yX2_has cX2_has 2 (some .boolean), Cond.methodLink RX2 122 yX1_live, Cond.instanceMethod yX1_live, Cond.selects RX1 yX1_live yX1_live, Cond.code yX1_live cX1_live 5 none, Cond.fieldLink RX1 24 "FableIndex$Land" "allowed" "[I", Cond.methodLink RX1 61 yX1_welcome, Cond.instanceMethod yX1_welcome, Cond.selects RX1 yX1_welcome yX1_welcome, Cond.code yX1_welcome cX1_welcome 5 (some .int), Cond.fieldLink RX1 50 "FableIndex$Book" "count" "I", Cond.methodLink RX1 53 yX1_bans, Cond.instanceMethod yX1_bans, Cond.selects RX1 yX1_bans yX1_bans, Cond.code yX1_bans cX1_bans 4 (some .boolean), Cond.fieldLink RX1 38 "FableIndex$Book" "moral" "[I", Cond.fieldLink RX1 47 "FableIndex$Book" "beasts" "[I", Cond.methodLink RX1 65 yX1_hush, Cond.instanceMethod yX1_hush, Cond.selects RX1 yX1_hush yX1_hush, Cond.code yX1_hush cX1_hush 2 none]
def wsX2_seasonsUntil_r3 : List Cond := [Cond.fieldLink RX1 27 "FableIndex$Land" "kept" "[I", Cond.static yX2_size, Cond.code yX2_size cX2_size 1 (some .int), Cond.methodLink RX2 253 yJ6_bitCount_0f7a4, Cond.static yJ6_bitCount_0f7a4, Cond.initialized RJ6, Cond.code yJ6_bitCount_0f7a4 cJ6_bitCount_0f7a4 1 (some .int), Cond.constant RJ6 265 (1431655765), Cond.constant RJ6 266 (858993459), Cond.constant RJ6 267 (252645135), Cond.methodLink RX1 68 yX1_spread, Cond.instanceMethod yX1_spread, Cond.selects RX1 yX1_spread yX1_spread, Cond.code yX1_spread cX1_spread 5 (some .boolean), Cond.methodLink RX1 72 yX1_arriving, Cond.instanceMethod yX1_arriving, Cond.selects RX1 yX1_arriving yX1_arriving, Cond.code yX1_arriving cX1_arriving 4 (some .int), Cond.methodLink RX1 75 yX1_admitted, Cond.instanceMethod yX1_admitted, Cond.selects RX1 yX1_admitted yX1_admitted, Cond.code yX1_admitted cX1_admitted 7 (some .int), Cond.fieldLink RX1 79 "FableIndex$Book" "variants" "[I", Cond.static yX2_smallestAlone]
def wsX2_seasonsUntil_r4 : List Cond := [Cond.code yX2_smallestAlone cX2_smallestAlone 1 (some .int)]
def wsX2_seasonsUntil : List Cond := .code yX2_seasonsUntil cX2_seasonsUntil 4 (some .int) :: ((wsX2_seasonsUntil_r1 ++ (wsX2_seasonsUntil_r2 ++ (wsX2_seasonsUntil_r3 ++ wsX2_seasonsUntil_r4))) ++ wsX20 ++ wsX10 ++ wsX00 ++ (vx_atS RX2 242 "java/lang/IndexOutOfBoundsException" ["java/lang/RuntimeException", "java/lang/Exception"]).filter goodWord)
def wsX2_tellingsOfTrial_r1 : List Cond := [Cond.fieldLink RX2 23 "FableIndex" "trial" "LFableIndex$Land;", Cond.fieldLink RX2 10 "FableIndex" "book" "LFableIndex$Book;", Cond.methodLink RX2 122 yX1_live, Cond.instanceMethod yX1_live, Cond.selects RX1 yX1_live yX1_live, Cond.initialized RX1, Cond.code yX1_live cX1_live 5 none, Cond.fieldLink RX1 24 "FableIndex$Land" "allowed" "[I", Cond.methodLink RX1 61 yX1_welcome, Cond.instanceMethod yX1_welcome, Cond.selects RX1 yX1_welcome yX1_welcome, Cond.code yX1_welcome cX1_welcome 5 (some .int), Cond.fieldLink RX1 50 "FableIndex$Book" "count" "I", Cond.methodLink RX1 53 yX1_bans, Cond.instanceMethod yX1_bans, Cond.selects RX1 yX1_bans yX1_bans, Cond.code yX1_bans cX1_bans 4 (some .boolean), Cond.fieldLink RX1 15 "FableIndex$Land" "bannedMorals" "[I", Cond.fieldLink RX1 38 "FableIndex$Book" "moral" "[I", Cond.fieldLink RX1 18 "FableIndex$Land" "bannedBeasts" "[I", Cond.fieldLink RX1 47 "FableIndex$Book" "beasts" "[I", Cond.static yX2_has, Cond.initialized RX2, Cond.code yX2_has cX2_has 2 (some .boolean)]
def wsX2_tellingsOfTrial_r2 : List Cond := [Cond.methodLink RX1 65 yX1_hush, Cond.instanceMethod yX1_hush, Cond.selects RX1 yX1_hush yX1_hush, Cond.code yX1_hush cX1_hush 2 none, Cond.fieldLink RX1 27 "FableIndex$Land" "kept" "[I", Cond.fieldLink RX1 21 "FableIndex$Land" "told" "[I", Cond.fieldLink RX1 30 "FableIndex$Land" "hushed" "I", Cond.static yX2_size, Cond.code yX2_size cX2_size 1 (some .int), Cond.methodLink RX2 253 yJ6_bitCount_0f7a4, Cond.static yJ6_bitCount_0f7a4, Cond.initialized RJ6, Cond.code yJ6_bitCount_0f7a4 cJ6_bitCount_0f7a4 1 (some .int), Cond.constant RJ6 265 (1431655765), Cond.constant RJ6 266 (858993459), Cond.constant RJ6 267 (252645135), Cond.methodLink RX1 68 yX1_spread, Cond.instanceMethod yX1_spread, Cond.selects RX1 yX1_spread yX1_spread, Cond.code yX1_spread cX1_spread 5 (some .boolean), Cond.methodLink RX1 72 yX1_arriving, Cond.instanceMethod yX1_arriving, Cond.selects RX1 yX1_arriving yX1_arriving, Cond.code yX1_arriving cX1_arriving 4 (some .int)]
def wsX2_tellingsOfTrial_r3 : List Cond := [Cond.fieldLink RX1 9 "FableIndex$Land" "ways" "[I", Cond.methodLink RX1 75 yX1_admitted, Cond.instanceMethod yX1_admitted, Cond.selects RX1 yX1_admitted yX1_admitted, Cond.code yX1_admitted cX1_admitted 7 (some .int), Cond.fieldLink RX1 79 "FableIndex$Book" "variants" "[I", Cond.static yX2_smallestAlone, Cond.code yX2_smallestAlone cX2_smallestAlone 1 (some .int), Cond.methodLink RX2 126 yX0_all, Cond.instanceMethod yX0_all, Cond.selects RX0 yX0_all yX0_all, Cond.initialized RX0, Cond.code yX0_all cX0_all 1 (some .int), Cond.fieldLink RX0 9 "FableIndex$Book" "count" "I", Cond.methodLink RX2 114 yX1_count, Cond.instanceMethod yX1_count, Cond.selects RX1 yX1_count yX1_count, Cond.code yX1_count cX1_count 4 (some .int)]
def wsX2_tellingsOfTrial : List Cond := .code yX2_tellingsOfTrial cX2_tellingsOfTrial 2 (some .int) :: ((wsX2_tellingsOfTrial_r1 ++ (wsX2_tellingsOfTrial_r2 ++ wsX2_tellingsOfTrial_r3)) ++ wsX20 ++ wsX10 ++ wsX00)
def wsX2_tellingsAfter_r1 : List Cond := [Cond.fieldLink RX2 23 "FableIndex" "trial" "LFableIndex$Land;", Cond.fieldLink RX2 19 "FableIndex" "land" "LFableIndex$Land;", Cond.methodLink RX2 119 yX2_needSeasons, Cond.static yX2_needSeasons, Cond.initialized RX2, Cond.code yX2_needSeasons cX2_needSeasons 2 none, Cond.classLink RX2 85 "java/lang/IllegalArgumentException", Cond.initialized "java/lang/IllegalArgumentException", Cond.methodLink RX2 157 yX1_become, Cond.instanceMethod yX1_become, Cond.selects RX1 yX1_become yX1_become, Cond.initialized RX1, Cond.code yX1_become cX1_become 3 none, Cond.fieldLink RX1 9 "FableIndex$Land" "ways" "[I", Cond.fieldLink RX1 15 "FableIndex$Land" "bannedMorals" "[I", Cond.fieldLink RX1 18 "FableIndex$Land" "bannedBeasts" "[I", Cond.fieldLink RX1 21 "FableIndex$Land" "told" "[I", Cond.fieldLink RX1 30 "FableIndex$Land" "hushed" "I", Cond.methodLink RX2 161 yX2_tellingsOfTrial, Cond.instanceMethod yX2_tellingsOfTrial, Cond.selects RX2 yX2_tellingsOfTrial yX2_tellingsOfTrial, Cond.code yX2_tellingsOfTrial cX2_tellingsOfTrial 2 (some .int), Cond.fieldLink RX2 10 "FableIndex" "book" "LFableIndex$Book;", Cond.methodLink RX2 122 yX1_live]
def wsX2_tellingsAfter_r2 : List Cond := [Cond.instanceMethod yX1_live, Cond.selects RX1 yX1_live yX1_live, Cond.code yX1_live cX1_live 5 none, Cond.fieldLink RX1 24 "FableIndex$Land" "allowed" "[I", Cond.methodLink RX1 61 yX1_welcome, Cond.instanceMethod yX1_welcome, Cond.selects RX1 yX1_welcome yX1_welcome, Cond.code yX1_welcome cX1_welcome 5 (some .int), Cond.fieldLink RX1 50 "FableIndex$Book" "count" "I", Cond.methodLink RX1 53 yX1_bans, Cond.instanceMethod yX1_bans, Cond.selects RX1 yX1_bans yX1_bans, Cond.code yX1_bans cX1_bans 4 (some .boolean), Cond.fieldLink RX1 38 "FableIndex$Book" "moral" "[I", Cond.fieldLink RX1 47 "FableIndex$Book" "beasts" "[I", Cond.static yX2_has, Cond.code yX2_has cX2_has 2 (some .boolean), Cond.methodLink RX1 65 yX1_hush, Cond.instanceMethod yX1_hush, Cond.selects RX1 yX1_hush yX1_hush, Cond.code yX1_hush cX1_hush 2 none, Cond.fieldLink RX1 27 "FableIndex$Land" "kept" "[I", Cond.static yX2_size, Cond.code yX2_size cX2_size 1 (some .int)]
def wsX2_tellingsAfter_r3 : List Cond := [Cond.methodLink RX2 253 yJ6_bitCount_0f7a4, Cond.static yJ6_bitCount_0f7a4, Cond.initialized RJ6, Cond.code yJ6_bitCount_0f7a4 cJ6_bitCount_0f7a4 1 (some .int), Cond.constant RJ6 265 (1431655765), Cond.constant RJ6 266 (858993459), Cond.constant RJ6 267 (252645135), Cond.methodLink RX1 68 yX1_spread, Cond.instanceMethod yX1_spread, Cond.selects RX1 yX1_spread yX1_spread, Cond.code yX1_spread cX1_spread 5 (some .boolean), Cond.methodLink RX1 72 yX1_arriving, Cond.instanceMethod yX1_arriving, Cond.selects RX1 yX1_arriving yX1_arriving, Cond.code yX1_arriving cX1_arriving 4 (some .int), Cond.methodLink RX1 75 yX1_admitted, Cond.instanceMethod yX1_admitted, Cond.selects RX1 yX1_admitted yX1_admitted, Cond.code yX1_admitted cX1_admitted 7 (some .int), Cond.fieldLink RX1 79 "FableIndex$Book" "variants" "[I", Cond.static yX2_smallestAlone, Cond.code yX2_smallestAlone cX2_smallestAlone 1 (some .int), Cond.methodLink RX2 126 yX0_all, Cond.instanceMethod yX0_all]
def wsX2_tellingsAfter_r4 : List Cond := [Cond.selects RX0 yX0_all yX0_all, Cond.initialized RX0, Cond.code yX0_all cX0_all 1 (some .int), Cond.fieldLink RX0 9 "FableIndex$Book" "count" "I", Cond.methodLink RX2 114 yX1_count, Cond.instanceMethod yX1_count, Cond.selects RX1 yX1_count yX1_count, Cond.code yX1_count cX1_count 4 (some .int)]
def wsX2_tellingsAfter : List Cond := .code yX2_tellingsAfter cX2_tellingsAfter 2 (some .int) :: ((wsX2_tellingsAfter_r1 ++ (wsX2_tellingsAfter_r2 ++ (wsX2_tellingsAfter_r3 ++ wsX2_tellingsAfter_r4))) ++ wsX20 ++ wsX10 ++ wsX00 ++ (vx_atS RX2 89 "java/lang/IllegalArgumentException" ["java/lang/RuntimeException", "java/lang/Exception"]).filter goodWord)
def wsX2_tellingsWithPass_r1 : List Cond := [Cond.fieldLink RX2 23 "FableIndex" "trial" "LFableIndex$Land;", Cond.fieldLink RX2 19 "FableIndex" "land" "LFableIndex$Land;", Cond.methodLink RX2 157 yX1_become, Cond.instanceMethod yX1_become, Cond.selects RX1 yX1_become yX1_become, Cond.initialized RX1, Cond.code yX1_become cX1_become 3 none, Cond.fieldLink RX1 9 "FableIndex$Land" "ways" "[I", Cond.fieldLink RX1 15 "FableIndex$Land" "bannedMorals" "[I", Cond.fieldLink RX1 18 "FableIndex$Land" "bannedBeasts" "[I", Cond.fieldLink RX1 21 "FableIndex$Land" "told" "[I", Cond.fieldLink RX1 30 "FableIndex$Land" "hushed" "I", Cond.methodLink RX2 90 yX1_turnWay, Cond.instanceMethod yX1_turnWay, Cond.selects RX1 yX1_turnWay yX1_turnWay, Cond.code yX1_turnWay cX1_turnWay 3 none, Cond.static yX2_turned, Cond.initialized RX2, Cond.code yX2_turned cX2_turned 2 (some .int), Cond.methodLink RX2 161 yX2_tellingsOfTrial, Cond.instanceMethod yX2_tellingsOfTrial, Cond.selects RX2 yX2_tellingsOfTrial yX2_tellingsOfTrial, Cond.code yX2_tellingsOfTrial cX2_tellingsOfTrial 2 (some .int), Cond.fieldLink RX2 10 "FableIndex" "book" "LFableIndex$Book;"]
def wsX2_tellingsWithPass_r2 : List Cond := [Cond.methodLink RX2 122 yX1_live, Cond.instanceMethod yX1_live, Cond.selects RX1 yX1_live yX1_live, Cond.code yX1_live cX1_live 5 none, Cond.fieldLink RX1 24 "FableIndex$Land" "allowed" "[I", Cond.methodLink RX1 61 yX1_welcome, Cond.instanceMethod yX1_welcome, Cond.selects RX1 yX1_welcome yX1_welcome, Cond.code yX1_welcome cX1_welcome 5 (some .int), Cond.fieldLink RX1 50 "FableIndex$Book" "count" "I", Cond.methodLink RX1 53 yX1_bans, Cond.instanceMethod yX1_bans, Cond.selects RX1 yX1_bans yX1_bans, Cond.code yX1_bans cX1_bans 4 (some .boolean), Cond.fieldLink RX1 38 "FableIndex$Book" "moral" "[I", Cond.fieldLink RX1 47 "FableIndex$Book" "beasts" "[I", Cond.static yX2_has, Cond.code yX2_has cX2_has 2 (some .boolean), Cond.methodLink RX1 65 yX1_hush, Cond.instanceMethod yX1_hush, Cond.selects RX1 yX1_hush yX1_hush, Cond.code yX1_hush cX1_hush 2 none, Cond.fieldLink RX1 27 "FableIndex$Land" "kept" "[I", Cond.static yX2_size]
def wsX2_tellingsWithPass_r3 : List Cond := [Cond.code yX2_size cX2_size 1 (some .int), Cond.methodLink RX2 253 yJ6_bitCount_0f7a4, Cond.static yJ6_bitCount_0f7a4, Cond.initialized RJ6, Cond.code yJ6_bitCount_0f7a4 cJ6_bitCount_0f7a4 1 (some .int), Cond.constant RJ6 265 (1431655765), Cond.constant RJ6 266 (858993459), Cond.constant RJ6 267 (252645135), Cond.methodLink RX1 68 yX1_spread, Cond.instanceMethod yX1_spread, Cond.selects RX1 yX1_spread yX1_spread, Cond.code yX1_spread cX1_spread 5 (some .boolean), Cond.methodLink RX1 72 yX1_arriving, Cond.instanceMethod yX1_arriving, Cond.selects RX1 yX1_arriving yX1_arriving, Cond.code yX1_arriving cX1_arriving 4 (some .int), Cond.methodLink RX1 75 yX1_admitted, Cond.instanceMethod yX1_admitted, Cond.selects RX1 yX1_admitted yX1_admitted, Cond.code yX1_admitted cX1_admitted 7 (some .int), Cond.fieldLink RX1 79 "FableIndex$Book" "variants" "[I", Cond.static yX2_smallestAlone, Cond.code yX2_smallestAlone cX2_smallestAlone 1 (some .int), Cond.methodLink RX2 126 yX0_all]
def wsX2_tellingsWithPass_r4 : List Cond := [Cond.instanceMethod yX0_all, Cond.selects RX0 yX0_all yX0_all, Cond.initialized RX0, Cond.code yX0_all cX0_all 1 (some .int), Cond.fieldLink RX0 9 "FableIndex$Book" "count" "I", Cond.methodLink RX2 114 yX1_count, Cond.instanceMethod yX1_count, Cond.selects RX1 yX1_count yX1_count, Cond.code yX1_count cX1_count 4 (some .int)]
def wsX2_tellingsWithPass : List Cond := .code yX2_tellingsWithPass cX2_tellingsWithPass 4 (some .int) :: ((wsX2_tellingsWithPass_r1 ++ (wsX2_tellingsWithPass_r2 ++ (wsX2_tellingsWithPass_r3 ++ wsX2_tellingsWithPass_r4))) ++ wsX20 ++ wsX10 ++ wsX00)
def wsX2_bestPass_r1 : List Cond := [Cond.fieldLink RX2 23 "FableIndex" "trial" "LFableIndex$Land;", Cond.fieldLink RX2 19 "FableIndex" "land" "LFableIndex$Land;", Cond.fieldLink RX2 94 "FableIndex$Land" "ways" "[I", Cond.methodLink RX2 119 yX2_needSeasons, Cond.static yX2_needSeasons, Cond.initialized RX2, Cond.code yX2_needSeasons cX2_needSeasons 2 none, Cond.classLink RX2 85 "java/lang/IllegalArgumentException", Cond.initialized "java/lang/IllegalArgumentException", Cond.methodLink RX2 157 yX1_become, Cond.instanceMethod yX1_become, Cond.selects RX1 yX1_become yX1_become, Cond.initialized RX1, Cond.code yX1_become cX1_become 3 none, Cond.fieldLink RX1 9 "FableIndex$Land" "ways" "[I", Cond.fieldLink RX1 15 "FableIndex$Land" "bannedMorals" "[I", Cond.fieldLink RX1 18 "FableIndex$Land" "bannedBeasts" "[I", Cond.fieldLink RX1 21 "FableIndex$Land" "told" "[I", Cond.fieldLink RX1 30 "FableIndex$Land" "hushed" "I", Cond.methodLink RX2 161 yX2_tellingsOfTrial, Cond.instanceMethod yX2_tellingsOfTrial, Cond.selects RX2 yX2_tellingsOfTrial yX2_tellingsOfTrial, Cond.code yX2_tellingsOfTrial cX2_tellingsOfTrial 2 (some .int), Cond.fieldLink RX2 10 "FableIndex" "book" "LFableIndex$Book;"]
def wsX2_bestPass_r2 : List Cond := [Cond.methodLink RX2 122 yX1_live, Cond.instanceMethod yX1_live, Cond.selects RX1 yX1_live yX1_live, Cond.code yX1_live cX1_live 5 none, Cond.fieldLink RX1 24 "FableIndex$Land" "allowed" "[I", Cond.methodLink RX1 61 yX1_welcome, Cond.instanceMethod yX1_welcome, Cond.selects RX1 yX1_welcome yX1_welcome, Cond.code yX1_welcome cX1_welcome 5 (some .int), Cond.fieldLink RX1 50 "FableIndex$Book" "count" "I", Cond.methodLink RX1 53 yX1_bans, Cond.instanceMethod yX1_bans, Cond.selects RX1 yX1_bans yX1_bans, Cond.code yX1_bans cX1_bans 4 (some .boolean), Cond.fieldLink RX1 38 "FableIndex$Book" "moral" "[I", Cond.fieldLink RX1 47 "FableIndex$Book" "beasts" "[I", Cond.static yX2_has, Cond.code yX2_has cX2_has 2 (some .boolean), Cond.methodLink RX1 65 yX1_hush, Cond.instanceMethod yX1_hush, Cond.selects RX1 yX1_hush yX1_hush, Cond.code yX1_hush cX1_hush 2 none, Cond.fieldLink RX1 27 "FableIndex$Land" "kept" "[I", Cond.static yX2_size]
def wsX2_bestPass_r3 : List Cond := [Cond.code yX2_size cX2_size 1 (some .int), Cond.methodLink RX2 253 yJ6_bitCount_0f7a4, Cond.static yJ6_bitCount_0f7a4, Cond.initialized RJ6, Cond.code yJ6_bitCount_0f7a4 cJ6_bitCount_0f7a4 1 (some .int), Cond.constant RJ6 265 (1431655765), Cond.constant RJ6 266 (858993459), Cond.constant RJ6 267 (252645135), Cond.methodLink RX1 68 yX1_spread, Cond.instanceMethod yX1_spread, Cond.selects RX1 yX1_spread yX1_spread, Cond.code yX1_spread cX1_spread 5 (some .boolean), Cond.methodLink RX1 72 yX1_arriving, Cond.instanceMethod yX1_arriving, Cond.selects RX1 yX1_arriving yX1_arriving, Cond.code yX1_arriving cX1_arriving 4 (some .int), Cond.methodLink RX1 75 yX1_admitted, Cond.instanceMethod yX1_admitted, Cond.selects RX1 yX1_admitted yX1_admitted, Cond.code yX1_admitted cX1_admitted 7 (some .int), Cond.fieldLink RX1 79 "FableIndex$Book" "variants" "[I", Cond.static yX2_smallestAlone, Cond.code yX2_smallestAlone cX2_smallestAlone 1 (some .int), Cond.methodLink RX2 126 yX0_all]
def wsX2_bestPass_r4 : List Cond := [Cond.instanceMethod yX0_all, Cond.selects RX0 yX0_all yX0_all, Cond.initialized RX0, Cond.code yX0_all cX0_all 1 (some .int), Cond.fieldLink RX0 9 "FableIndex$Book" "count" "I", Cond.methodLink RX2 114 yX1_count, Cond.instanceMethod yX1_count, Cond.selects RX1 yX1_count yX1_count, Cond.code yX1_count cX1_count 4 (some .int), Cond.methodLink RX2 54 yX2_has, Cond.methodLink RX2 164 yX2_tellingsWithPass, Cond.instanceMethod yX2_tellingsWithPass, Cond.selects RX2 yX2_tellingsWithPass yX2_tellingsWithPass, Cond.code yX2_tellingsWithPass cX2_tellingsWithPass 4 (some .int), Cond.methodLink RX2 90 yX1_turnWay, Cond.instanceMethod yX1_turnWay, Cond.selects RX1 yX1_turnWay yX1_turnWay, Cond.code yX1_turnWay cX1_turnWay 3 none, Cond.static yX2_turned, Cond.code yX2_turned cX2_turned 2 (some .int)]
def wsX2_bestPass : List Cond := .code yX2_bestPass cX2_bestPass 7 (some .int) :: ((wsX2_bestPass_r1 ++ (wsX2_bestPass_r2 ++ (wsX2_bestPass_r3 ++ wsX2_bestPass_r4))) ++ wsX20 ++ wsX10 ++ wsX00 ++ (vx_atS RX2 89 "java/lang/IllegalArgumentException" ["java/lang/RuntimeException", "java/lang/Exception"]).filter goodWord)
def wsX2_meanBeasts : List Cond := .code yX2_meanBeasts cX2_meanBeasts 3 (some .double) :: ([.fieldLink RX2 10 "FableIndex" "book" "LFableIndex$Book;", .fieldLink RX2 146 "FableIndex$Book" "count" "I", .fieldLink RX2 50 "FableIndex$Book" "beasts" "[I", .methodLink RX2 70 yX2_size, .static yX2_size, .initialized RX2, .code yX2_size cX2_size 1 (some .int), .methodLink RX2 253 yJ6_bitCount_0f7a4, .static yJ6_bitCount_0f7a4, .initialized RJ6, .code yJ6_bitCount_0f7a4 cJ6_bitCount_0f7a4 1 (some .int), .constant RJ6 265 (1431655765), .constant RJ6 266 (858993459), .constant RJ6 267 (252645135)] ++ wsX20 ++ wsX00)
def wsX2_mixed : List Cond := .code yX2_mixed cX2_mixed 3 (some .long) :: ([.constantLong RX2 236 (31)])
def wsX2_mixedWithFable_r1 : List Cond := [Cond.methodLink RX2 197 yX2_moralOf, Cond.instanceMethod yX2_moralOf, Cond.selects RX2 yX2_moralOf yX2_moralOf, Cond.initialized RX2, Cond.code yX2_moralOf cX2_moralOf 2 (some .int), Cond.fieldLink RX2 10 "FableIndex" "book" "LFableIndex$Book;", Cond.fieldLink RX2 78 "FableIndex$Book" "moral" "[I", Cond.methodLink RX2 47 yX2_needFable, Cond.instanceMethod yX2_needFable, Cond.selects RX2 yX2_needFable yX2_needFable, Cond.code yX2_needFable cX2_needFable 2 none, Cond.classLink RX2 238 "java/lang/IndexOutOfBoundsException", Cond.initialized "java/lang/IndexOutOfBoundsException", Cond.fieldLink RX2 146 "FableIndex$Book" "count" "I", Cond.methodLink RX2 173 yX2_mixed, Cond.static yX2_mixed, Cond.code yX2_mixed cX2_mixed 3 (some .long), Cond.constantLong RX2 236 (31), Cond.methodLink RX2 200 yX2_beastsOf, Cond.instanceMethod yX2_beastsOf, Cond.selects RX2 yX2_beastsOf yX2_beastsOf, Cond.code yX2_beastsOf cX2_beastsOf 2 (some .int), Cond.fieldLink RX2 50 "FableIndex$Book" "beasts" "[I", Cond.methodLink RX2 70 yX2_size]
def wsX2_mixedWithFable_r2 : List Cond := [Cond.static yX2_size, Cond.code yX2_size cX2_size 1 (some .int), Cond.methodLink RX2 253 yJ6_bitCount_0f7a4, Cond.static yJ6_bitCount_0f7a4, Cond.initialized RJ6, Cond.code yJ6_bitCount_0f7a4 cJ6_bitCount_0f7a4 1 (some .int), Cond.constant RJ6 265 (1431655765), Cond.constant RJ6 266 (858993459), Cond.constant RJ6 267 (252645135), Cond.methodLink RX2 203 yX2_homeOf, Cond.instanceMethod yX2_homeOf, Cond.selects RX2 yX2_homeOf yX2_homeOf, Cond.code yX2_homeOf cX2_homeOf 2 (some .int), Cond.fieldLink RX2 130 "FableIndex$Book" "home" "[I", Cond.methodLink RX2 206 yX2_parentOf, Cond.instanceMethod yX2_parentOf, Cond.selects RX2 yX2_parentOf yX2_parentOf, Cond.code yX2_parentOf cX2_parentOf 2 (some .int), Cond.fieldLink RX2 133 "FableIndex$Book" "parent" "[I", Cond.methodLink RX2 209 yX2_variantsOf, Cond.instanceMethod yX2_variantsOf, Cond.selects RX2 yX2_variantsOf yX2_variantsOf, Cond.code yX2_variantsOf cX2_variantsOf 2 (some .int), Cond.fieldLink RX2 65 "FableIndex$Book" "variants" "[I"]
def wsX2_mixedWithFable_r3 : List Cond := [Cond.methodLink RX2 212 yX2_valleysOf, Cond.instanceMethod yX2_valleysOf, Cond.selects RX2 yX2_valleysOf yX2_valleysOf, Cond.code yX2_valleysOf cX2_valleysOf 2 (some .int), Cond.fieldLink RX2 19 "FableIndex" "land" "LFableIndex$Land;", Cond.methodLink RX2 114 yX1_count, Cond.instanceMethod yX1_count, Cond.selects RX1 yX1_count yX1_count, Cond.initialized RX1, Cond.code yX1_count cX1_count 4 (some .int), Cond.fieldLink RX1 21 "FableIndex$Land" "told" "[I", Cond.methodLink RX2 215 yX2_hasBeast, Cond.instanceMethod yX2_hasBeast, Cond.selects RX2 yX2_hasBeast yX2_hasBeast, Cond.code yX2_hasBeast cX2_hasBeast 3 (some .boolean), Cond.methodLink RX2 34 yX2_needBeast, Cond.static yX2_needBeast, Cond.code yX2_needBeast cX2_needBeast 1 none, Cond.methodLink RX2 54 yX2_has, Cond.static yX2_has, Cond.code yX2_has cX2_has 2 (some .boolean), Cond.methodLink RX2 218 yX2_isTold, Cond.instanceMethod yX2_isTold, Cond.selects RX2 yX2_isTold yX2_isTold]
def wsX2_mixedWithFable_r4 : List Cond := [Cond.code yX2_isTold cX2_isTold 3 (some .boolean), Cond.fieldLink RX2 103 "FableIndex$Land" "told" "[I", Cond.methodLink RX2 37 yX2_needValley, Cond.static yX2_needValley, Cond.code yX2_needValley cX2_needValley 1 none, Cond.methodLink RX2 221 yX2_isBanned, Cond.instanceMethod yX2_isBanned, Cond.selects RX2 yX2_isBanned yX2_isBanned, Cond.code yX2_isBanned cX2_isBanned 3 (some .boolean), Cond.methodLink RX2 108 yX1_bans, Cond.instanceMethod yX1_bans, Cond.selects RX1 yX1_bans yX1_bans, Cond.code yX1_bans cX1_bans 4 (some .boolean), Cond.fieldLink RX1 15 "FableIndex$Land" "bannedMorals" "[I", Cond.fieldLink RX1 38 "FableIndex$Book" "moral" "[I", Cond.fieldLink RX1 18 "FableIndex$Land" "bannedBeasts" "[I", Cond.fieldLink RX1 47 "FableIndex$Book" "beasts" "[I"]
def wsX2_mixedWithFable : List Cond := .code yX2_mixedWithFable cX2_mixedWithFable 7 (some .long) :: ((wsX2_mixedWithFable_r1 ++ (wsX2_mixedWithFable_r2 ++ (wsX2_mixedWithFable_r3 ++ wsX2_mixedWithFable_r4))) ++ wsX20 ++ wsX00 ++ wsX10 ++ (vx_atS RX2 242 "java/lang/IndexOutOfBoundsException" ["java/lang/RuntimeException", "java/lang/Exception"]).filter goodWord)
def wsX2_mixedWithValley_r1 : List Cond := [Cond.methodLink RX2 224 yX2_toldIn, Cond.instanceMethod yX2_toldIn, Cond.selects RX2 yX2_toldIn yX2_toldIn, Cond.initialized RX2, Cond.code yX2_toldIn cX2_toldIn 2 (some .int), Cond.fieldLink RX2 19 "FableIndex" "land" "LFableIndex$Land;", Cond.fieldLink RX2 103 "FableIndex$Land" "told" "[I", Cond.methodLink RX2 37 yX2_needValley, Cond.static yX2_needValley, Cond.code yX2_needValley cX2_needValley 1 none, Cond.classLink RX2 238 "java/lang/IndexOutOfBoundsException", Cond.initialized "java/lang/IndexOutOfBoundsException", Cond.methodLink RX2 70 yX2_size, Cond.static yX2_size, Cond.code yX2_size cX2_size 1 (some .int), Cond.methodLink RX2 253 yJ6_bitCount_0f7a4, Cond.static yJ6_bitCount_0f7a4, Cond.initialized RJ6, Cond.code yJ6_bitCount_0f7a4 cJ6_bitCount_0f7a4 1 (some .int), Cond.constant RJ6 265 (1431655765), Cond.constant RJ6 266 (858993459), Cond.constant RJ6 267 (252645135), Cond.methodLink RX2 173 yX2_mixed, Cond.static yX2_mixed]
def wsX2_mixedWithValley_r2 : List Cond := [Cond.code yX2_mixed cX2_mixed 3 (some .long), Cond.constantLong RX2 236 (31), Cond.methodLink RX2 227 yX2_allowedIn, Cond.instanceMethod yX2_allowedIn, Cond.selects RX2 yX2_allowedIn yX2_allowedIn, Cond.code yX2_allowedIn cX2_allowedIn 2 (some .int), Cond.fieldLink RX2 10 "FableIndex" "book" "LFableIndex$Book;", Cond.methodLink RX2 142 yX1_welcome, Cond.instanceMethod yX1_welcome, Cond.selects RX1 yX1_welcome yX1_welcome, Cond.initialized RX1, Cond.code yX1_welcome cX1_welcome 5 (some .int), Cond.fieldLink RX1 50 "FableIndex$Book" "count" "I", Cond.methodLink RX1 53 yX1_bans, Cond.instanceMethod yX1_bans, Cond.selects RX1 yX1_bans yX1_bans, Cond.code yX1_bans cX1_bans 4 (some .boolean), Cond.fieldLink RX1 15 "FableIndex$Land" "bannedMorals" "[I", Cond.fieldLink RX1 38 "FableIndex$Book" "moral" "[I", Cond.fieldLink RX1 18 "FableIndex$Land" "bannedBeasts" "[I", Cond.fieldLink RX1 47 "FableIndex$Book" "beasts" "[I", Cond.static yX2_has, Cond.code yX2_has cX2_has 2 (some .boolean), Cond.methodLink RX2 230 yX2_bansOf]
def wsX2_mixedWithValley_r3 : List Cond := [Cond.instanceMethod yX2_bansOf, Cond.selects RX2 yX2_bansOf yX2_bansOf, Cond.code yX2_bansOf cX2_bansOf 2 (some .int), Cond.fieldLink RX2 97 "FableIndex$Land" "bannedMorals" "[I", Cond.fieldLink RX2 100 "FableIndex$Land" "bannedBeasts" "[I", Cond.methodLink RX2 233 yX2_isOpen, Cond.instanceMethod yX2_isOpen, Cond.selects RX2 yX2_isOpen yX2_isOpen, Cond.code yX2_isOpen cX2_isOpen 3 (some .boolean), Cond.fieldLink RX2 94 "FableIndex$Land" "ways" "[I", Cond.methodLink RX2 54 yX2_has]
def wsX2_mixedWithValley : List Cond := .code yX2_mixedWithValley cX2_mixedWithValley 7 (some .long) :: ((wsX2_mixedWithValley_r1 ++ (wsX2_mixedWithValley_r2 ++ wsX2_mixedWithValley_r3)) ++ wsX20 ++ wsX10 ++ wsX00 ++ (vx_atS RX2 242 "java/lang/IndexOutOfBoundsException" ["java/lang/RuntimeException", "java/lang/Exception"]).filter goodWord)
def wsX2_digest_r1 : List Cond := [Cond.constantLong RX2 168 (1861), Cond.fieldLink RX2 10 "FableIndex" "book" "LFableIndex$Book;", Cond.fieldLink RX2 146 "FableIndex$Book" "count" "I", Cond.methodLink RX2 170 yX2_fables, Cond.instanceMethod yX2_fables, Cond.selects RX2 yX2_fables yX2_fables, Cond.initialized RX2, Cond.code yX2_fables cX2_fables 1 (some .int), Cond.methodLink RX2 173 yX2_mixed, Cond.static yX2_mixed, Cond.code yX2_mixed cX2_mixed 3 (some .long), Cond.constantLong RX2 236 (31), Cond.methodLink RX2 177 yX2_season, Cond.instanceMethod yX2_season, Cond.selects RX2 yX2_season yX2_season, Cond.code yX2_season cX2_season 1 (some .int), Cond.fieldLink RX2 26 "FableIndex" "season" "I", Cond.methodLink RX2 179 yX2_tellings, Cond.instanceMethod yX2_tellings, Cond.selects RX2 yX2_tellings yX2_tellings, Cond.code yX2_tellings cX2_tellings 1 (some .int), Cond.fieldLink RX2 19 "FableIndex" "land" "LFableIndex$Land;", Cond.methodLink RX2 126 yX0_all, Cond.instanceMethod yX0_all]
def wsX2_digest_r2 : List Cond := [Cond.selects RX0 yX0_all yX0_all, Cond.initialized RX0, Cond.code yX0_all cX0_all 1 (some .int), Cond.fieldLink RX0 9 "FableIndex$Book" "count" "I", Cond.methodLink RX2 114 yX1_count, Cond.instanceMethod yX1_count, Cond.selects RX1 yX1_count yX1_count, Cond.initialized RX1, Cond.code yX1_count cX1_count 4 (some .int), Cond.fieldLink RX1 21 "FableIndex$Land" "told" "[I", Cond.static yX2_size, Cond.code yX2_size cX2_size 1 (some .int), Cond.methodLink RX2 253 yJ6_bitCount_0f7a4, Cond.static yJ6_bitCount_0f7a4, Cond.initialized RJ6, Cond.code yJ6_bitCount_0f7a4 cJ6_bitCount_0f7a4 1 (some .int), Cond.constant RJ6 265 (1431655765), Cond.constant RJ6 266 (858993459), Cond.constant RJ6 267 (252645135), Cond.methodLink RX2 182 yX2_silenced, Cond.instanceMethod yX2_silenced, Cond.selects RX2 yX2_silenced yX2_silenced, Cond.code yX2_silenced cX2_silenced 1 (some .int), Cond.fieldLink RX2 148 "FableIndex$Land" "hushed" "I"]
def wsX2_digest_r3 : List Cond := [Cond.methodLink RX2 185 yX2_favouriteMoral, Cond.instanceMethod yX2_favouriteMoral, Cond.selects RX2 yX2_favouriteMoral yX2_favouriteMoral, Cond.code yX2_favouriteMoral cX2_favouriteMoral 5 (some .int), Cond.methodLink RX2 151 yX0_withMoral, Cond.instanceMethod yX0_withMoral, Cond.selects RX0 yX0_withMoral yX0_withMoral, Cond.code yX0_withMoral cX0_withMoral 4 (some .int), Cond.fieldLink RX0 15 "FableIndex$Book" "moral" "[I", Cond.methodLink RX2 188 yX2_favouriteBeast, Cond.instanceMethod yX2_favouriteBeast, Cond.selects RX2 yX2_favouriteBeast yX2_favouriteBeast, Cond.code yX2_favouriteBeast cX2_favouriteBeast 5 (some .int), Cond.methodLink RX2 154 yX0_withBeast, Cond.instanceMethod yX0_withBeast, Cond.selects RX0 yX0_withBeast yX0_withBeast, Cond.code yX0_withBeast cX0_withBeast 4 (some .int), Cond.fieldLink RX0 19 "FableIndex$Book" "beasts" "[I", Cond.static yX2_has, Cond.code yX2_has cX2_has 2 (some .boolean), Cond.methodLink RX2 191 yX2_mixedWithFable, Cond.instanceMethod yX2_mixedWithFable, Cond.selects RX2 yX2_mixedWithFable yX2_mixedWithFable, Cond.code yX2_mixedWithFable cX2_mixedWithFable 7 (some .long)]
def wsX2_digest_r4 : List Cond := [Cond.methodLink RX2 197 yX2_moralOf, Cond.instanceMethod yX2_moralOf, Cond.selects RX2 yX2_moralOf yX2_moralOf, Cond.code yX2_moralOf cX2_moralOf 2 (some .int), Cond.fieldLink RX2 78 "FableIndex$Book" "moral" "[I", Cond.methodLink RX2 47 yX2_needFable, Cond.instanceMethod yX2_needFable, Cond.selects RX2 yX2_needFable yX2_needFable, Cond.code yX2_needFable cX2_needFable 2 none, Cond.classLink RX2 238 "java/lang/IndexOutOfBoundsException", Cond.initialized "java/lang/IndexOutOfBoundsException", Cond.methodLink RX2 200 yX2_beastsOf, Cond.instanceMethod yX2_beastsOf, Cond.selects RX2 yX2_beastsOf yX2_beastsOf, Cond.code yX2_beastsOf cX2_beastsOf 2 (some .int), Cond.fieldLink RX2 50 "FableIndex$Book" "beasts" "[I", Cond.methodLink RX2 70 yX2_size, Cond.methodLink RX2 203 yX2_homeOf, Cond.instanceMethod yX2_homeOf, Cond.selects RX2 yX2_homeOf yX2_homeOf, Cond.code yX2_homeOf cX2_homeOf 2 (some .int), Cond.fieldLink RX2 130 "FableIndex$Book" "home" "[I", Cond.methodLink RX2 206 yX2_parentOf, Cond.instanceMethod yX2_parentOf]
def wsX2_digest_r5 : List Cond := [Cond.selects RX2 yX2_parentOf yX2_parentOf, Cond.code yX2_parentOf cX2_parentOf 2 (some .int), Cond.fieldLink RX2 133 "FableIndex$Book" "parent" "[I", Cond.methodLink RX2 209 yX2_variantsOf, Cond.instanceMethod yX2_variantsOf, Cond.selects RX2 yX2_variantsOf yX2_variantsOf, Cond.code yX2_variantsOf cX2_variantsOf 2 (some .int), Cond.fieldLink RX2 65 "FableIndex$Book" "variants" "[I", Cond.methodLink RX2 212 yX2_valleysOf, Cond.instanceMethod yX2_valleysOf, Cond.selects RX2 yX2_valleysOf yX2_valleysOf, Cond.code yX2_valleysOf cX2_valleysOf 2 (some .int), Cond.methodLink RX2 215 yX2_hasBeast, Cond.instanceMethod yX2_hasBeast, Cond.selects RX2 yX2_hasBeast yX2_hasBeast, Cond.code yX2_hasBeast cX2_hasBeast 3 (some .boolean), Cond.methodLink RX2 34 yX2_needBeast, Cond.static yX2_needBeast, Cond.code yX2_needBeast cX2_needBeast 1 none, Cond.methodLink RX2 54 yX2_has, Cond.methodLink RX2 218 yX2_isTold, Cond.instanceMethod yX2_isTold, Cond.selects RX2 yX2_isTold yX2_isTold, Cond.code yX2_isTold cX2_isTold 3 (some .boolean)]
def wsX2_digest_r6 : List Cond := [Cond.fieldLink RX2 103 "FableIndex$Land" "told" "[I", Cond.methodLink RX2 37 yX2_needValley, Cond.static yX2_needValley, Cond.code yX2_needValley cX2_needValley 1 none, Cond.methodLink RX2 221 yX2_isBanned, Cond.instanceMethod yX2_isBanned, Cond.selects RX2 yX2_isBanned yX2_isBanned, Cond.code yX2_isBanned cX2_isBanned 3 (some .boolean), Cond.methodLink RX2 108 yX1_bans, Cond.instanceMethod yX1_bans, Cond.selects RX1 yX1_bans yX1_bans, Cond.code yX1_bans cX1_bans 4 (some .boolean), Cond.fieldLink RX1 15 "FableIndex$Land" "bannedMorals" "[I", Cond.fieldLink RX1 38 "FableIndex$Book" "moral" "[I", Cond.fieldLink RX1 18 "FableIndex$Land" "bannedBeasts" "[I", Cond.fieldLink RX1 47 "FableIndex$Book" "beasts" "[I", Cond.methodLink RX2 194 yX2_mixedWithValley, Cond.instanceMethod yX2_mixedWithValley, Cond.selects RX2 yX2_mixedWithValley yX2_mixedWithValley, Cond.code yX2_mixedWithValley cX2_mixedWithValley 7 (some .long), Cond.methodLink RX2 224 yX2_toldIn, Cond.instanceMethod yX2_toldIn, Cond.selects RX2 yX2_toldIn yX2_toldIn, Cond.code yX2_toldIn cX2_toldIn 2 (some .int)]
def wsX2_digest_r7 : List Cond := [Cond.methodLink RX2 227 yX2_allowedIn, Cond.instanceMethod yX2_allowedIn, Cond.selects RX2 yX2_allowedIn yX2_allowedIn, Cond.code yX2_allowedIn cX2_allowedIn 2 (some .int), Cond.methodLink RX2 142 yX1_welcome, Cond.instanceMethod yX1_welcome, Cond.selects RX1 yX1_welcome yX1_welcome, Cond.code yX1_welcome cX1_welcome 5 (some .int), Cond.fieldLink RX1 50 "FableIndex$Book" "count" "I", Cond.methodLink RX1 53 yX1_bans, Cond.methodLink RX2 230 yX2_bansOf, Cond.instanceMethod yX2_bansOf, Cond.selects RX2 yX2_bansOf yX2_bansOf, Cond.code yX2_bansOf cX2_bansOf 2 (some .int), Cond.fieldLink RX2 97 "FableIndex$Land" "bannedMorals" "[I", Cond.fieldLink RX2 100 "FableIndex$Land" "bannedBeasts" "[I", Cond.methodLink RX2 233 yX2_isOpen, Cond.instanceMethod yX2_isOpen, Cond.selects RX2 yX2_isOpen yX2_isOpen, Cond.code yX2_isOpen cX2_isOpen 3 (some .boolean), Cond.fieldLink RX2 94 "FableIndex$Land" "ways" "[I"]
def wsX2_digest : List Cond := .code yX2_digest cX2_digest 4 (some .long) :: ((wsX2_digest_r1 ++ (wsX2_digest_r2 ++ (wsX2_digest_r3 ++ (wsX2_digest_r4 ++ (wsX2_digest_r5 ++ (wsX2_digest_r6 ++ wsX2_digest_r7)))))) ++ wsX20 ++ wsX00 ++ wsX10 ++ (vx_atS RX2 242 "java/lang/IndexOutOfBoundsException" ["java/lang/RuntimeException", "java/lang/Exception"]).filter goodWord)
def wsX3_init : List Cond := .code yX3_init cX3_init 1 none :: ([.methodLink RX3 1 objectInit, .instanceMethod objectInit, .code objectInit ⟨#[0xb1]⟩ 1 none, .arrayClass .int, .fieldLink RX3 9 "FableIndexModel" "moral" "[I", .fieldLink RX3 13 "FableIndexModel" "beasts" "[I", .fieldLink RX3 16 "FableIndexModel" "home" "[I", .fieldLink RX3 19 "FableIndexModel" "parent" "[I", .fieldLink RX3 22 "FableIndexModel" "told" "[I", .fieldLink RX3 25 "FableIndexModel" "morals" "[I", .fieldLink RX3 28 "FableIndexModel" "bans" "[I", .fieldLink RX3 31 "FableIndexModel" "passes" "[I", .fieldLink RX3 34 "FableIndexModel" "next" "[I", .fieldLink RX3 37 "FableIndexModel" "kept" "[I"] ++ wsX30)
def wsX3_thrown : List Cond := .code yX3_thrown cX3_thrown 1 (some .int) :: ([.fieldLink RX3 40 "FableIndexModel" "thrown" "I"] ++ wsX30)
def wsX3_fail : List Cond := .code yX3_fail cX3_fail 2 (some .int) :: ([.fieldLink RX3 40 "FableIndexModel" "thrown" "I"] ++ wsX30)
def wsX3_failed : List Cond := .code yX3_failed cX3_failed 2 (some .boolean) :: ([.fieldLink RX3 40 "FableIndexModel" "thrown" "I"] ++ wsX30)
def wsX3_isIn : List Cond := .code yX3_isIn cX3_isIn 3 (some .boolean) :: ([])
def wsX3_isFable : List Cond := .code yX3_isFable cX3_isFable 2 (some .boolean) :: ([.fieldLink RX3 44 "FableIndexModel" "fables" "I", .methodLink RX3 47 yX3_isIn, .static yX3_isIn, .initialized RX3, .code yX3_isIn cX3_isIn 3 (some .boolean)] ++ wsX30)
def wsX3_isValley : List Cond := .code yX3_isValley cX3_isValley 1 (some .boolean) :: ([.methodLink RX3 47 yX3_isIn, .static yX3_isIn, .initialized RX3, .code yX3_isIn cX3_isIn 3 (some .boolean)])
def wsX3_isBeast : List Cond := .code yX3_isBeast cX3_isBeast 1 (some .boolean) :: ([.methodLink RX3 47 yX3_isIn, .static yX3_isIn, .initialized RX3, .code yX3_isIn cX3_isIn 3 (some .boolean)])
def wsX3_isMoral : List Cond := .code yX3_isMoral cX3_isMoral 1 (some .boolean) :: ([.methodLink RX3 47 yX3_isIn, .static yX3_isIn, .initialized RX3, .code yX3_isIn cX3_isIn 3 (some .boolean)])
def wsX3_has : List Cond := .code yX3_has cX3_has 2 (some .boolean) :: ([])
def wsX3_many : List Cond := .code yX3_many cX3_many 3 (some .int) :: ([])
def wsX3_banned : List Cond := .code yX3_banned cX3_banned 3 (some .boolean) :: ([.fieldLink RX3 25 "FableIndexModel" "morals" "[I", .fieldLink RX3 9 "FableIndexModel" "moral" "[I", .fieldLink RX3 28 "FableIndexModel" "bans" "[I", .fieldLink RX3 13 "FableIndexModel" "beasts" "[I", .methodLink RX3 51 yX3_has, .static yX3_has, .initialized RX3, .code yX3_has cX3_has 2 (some .boolean)] ++ wsX30)
def wsX3_write : List Cond := .code yX3_write cX3_write 5 (some .int) :: ([.fieldLink RX3 9 "FableIndexModel" "moral" "[I", .fieldLink RX3 44 "FableIndexModel" "fables" "I", .fieldLink RX3 13 "FableIndexModel" "beasts" "[I", .fieldLink RX3 16 "FableIndexModel" "home" "[I", .fieldLink RX3 19 "FableIndexModel" "parent" "[I"] ++ wsX30)
def wsX3_children : List Cond := .code yX3_children cX3_children 4 (some .int) :: ([.fieldLink RX3 44 "FableIndexModel" "fables" "I", .fieldLink RX3 19 "FableIndexModel" "parent" "[I"] ++ wsX30)
def wsX3_addFable_r1 : List Cond := [Cond.fieldLink RX3 40 "FableIndexModel" "thrown" "I", Cond.fieldLink RX3 44 "FableIndexModel" "fables" "I", Cond.methodLink RX3 55 yX3_isMoral, Cond.static yX3_isMoral, Cond.initialized RX3, Cond.code yX3_isMoral cX3_isMoral 1 (some .boolean), Cond.methodLink RX3 47 yX3_isIn, Cond.static yX3_isIn, Cond.code yX3_isIn cX3_isIn 3 (some .boolean), Cond.methodLink RX3 59 yX3_isBeast, Cond.static yX3_isBeast, Cond.code yX3_isBeast cX3_isBeast 1 (some .boolean), Cond.methodLink RX3 62 yX3_isValley, Cond.static yX3_isValley, Cond.code yX3_isValley cX3_isValley 1 (some .boolean), Cond.methodLink RX3 65 yX3_fail, Cond.instanceMethod yX3_fail, Cond.selects RX3 yX3_fail yX3_fail, Cond.code yX3_fail cX3_fail 2 (some .int), Cond.methodLink RX3 69 yX3_write, Cond.instanceMethod yX3_write, Cond.selects RX3 yX3_write yX3_write, Cond.code yX3_write cX3_write 5 (some .int), Cond.fieldLink RX3 9 "FableIndexModel" "moral" "[I"]
def wsX3_addFable_r2 : List Cond := [Cond.fieldLink RX3 13 "FableIndexModel" "beasts" "[I", Cond.fieldLink RX3 16 "FableIndexModel" "home" "[I", Cond.fieldLink RX3 19 "FableIndexModel" "parent" "[I"]
def wsX3_addFable : List Cond := .code yX3_addFable cX3_addFable 4 (some .int) :: ((wsX3_addFable_r1 ++ wsX3_addFable_r2) ++ wsX30)
def wsX3_addBeast_r1 : List Cond := [Cond.fieldLink RX3 40 "FableIndexModel" "thrown" "I", Cond.fieldLink RX3 13 "FableIndexModel" "beasts" "[I", Cond.methodLink RX3 73 yX3_isFable, Cond.instanceMethod yX3_isFable, Cond.selects RX3 yX3_isFable yX3_isFable, Cond.initialized RX3, Cond.code yX3_isFable cX3_isFable 2 (some .boolean), Cond.fieldLink RX3 44 "FableIndexModel" "fables" "I", Cond.methodLink RX3 47 yX3_isIn, Cond.static yX3_isIn, Cond.code yX3_isIn cX3_isIn 3 (some .boolean), Cond.methodLink RX3 59 yX3_isBeast, Cond.static yX3_isBeast, Cond.code yX3_isBeast cX3_isBeast 1 (some .boolean), Cond.methodLink RX3 65 yX3_fail, Cond.instanceMethod yX3_fail, Cond.selects RX3 yX3_fail yX3_fail, Cond.code yX3_fail cX3_fail 2 (some .int), Cond.methodLink RX3 51 yX3_has, Cond.static yX3_has, Cond.code yX3_has cX3_has 2 (some .boolean), Cond.methodLink RX3 76 yX3_children, Cond.instanceMethod yX3_children, Cond.selects RX3 yX3_children yX3_children]
def wsX3_addBeast_r2 : List Cond := [Cond.code yX3_children cX3_children 4 (some .int), Cond.fieldLink RX3 19 "FableIndexModel" "parent" "[I", Cond.methodLink RX3 79 yX3_many, Cond.static yX3_many, Cond.code yX3_many cX3_many 3 (some .int)]
def wsX3_addBeast : List Cond := .code yX3_addBeast cX3_addBeast 3 (some .int) :: ((wsX3_addBeast_r1 ++ wsX3_addBeast_r2) ++ wsX30)
def wsX3_addVariant_r1 : List Cond := [Cond.fieldLink RX3 40 "FableIndexModel" "thrown" "I", Cond.fieldLink RX3 44 "FableIndexModel" "fables" "I", Cond.fieldLink RX3 13 "FableIndexModel" "beasts" "[I", Cond.fieldLink RX3 9 "FableIndexModel" "moral" "[I", Cond.methodLink RX3 73 yX3_isFable, Cond.instanceMethod yX3_isFable, Cond.selects RX3 yX3_isFable yX3_isFable, Cond.initialized RX3, Cond.code yX3_isFable cX3_isFable 2 (some .boolean), Cond.methodLink RX3 47 yX3_isIn, Cond.static yX3_isIn, Cond.code yX3_isIn cX3_isIn 3 (some .boolean), Cond.methodLink RX3 59 yX3_isBeast, Cond.static yX3_isBeast, Cond.code yX3_isBeast cX3_isBeast 1 (some .boolean), Cond.methodLink RX3 62 yX3_isValley, Cond.static yX3_isValley, Cond.code yX3_isValley cX3_isValley 1 (some .boolean), Cond.methodLink RX3 65 yX3_fail, Cond.instanceMethod yX3_fail, Cond.selects RX3 yX3_fail yX3_fail, Cond.code yX3_fail cX3_fail 2 (some .int), Cond.methodLink RX3 51 yX3_has, Cond.static yX3_has]
def wsX3_addVariant_r2 : List Cond := [Cond.code yX3_has cX3_has 2 (some .boolean), Cond.methodLink RX3 69 yX3_write, Cond.instanceMethod yX3_write, Cond.selects RX3 yX3_write yX3_write, Cond.code yX3_write cX3_write 5 (some .int), Cond.fieldLink RX3 16 "FableIndexModel" "home" "[I", Cond.fieldLink RX3 19 "FableIndexModel" "parent" "[I"]
def wsX3_addVariant : List Cond := .code yX3_addVariant cX3_addVariant 5 (some .int) :: ((wsX3_addVariant_r1 ++ wsX3_addVariant_r2) ++ wsX30)
def wsX3_turnPass : List Cond := .code yX3_turnPass cX3_turnPass 3 (some .boolean) :: ([.fieldLink RX3 40 "FableIndexModel" "thrown" "I", .fieldLink RX3 31 "FableIndexModel" "passes" "[I", .methodLink RX3 62 yX3_isValley, .static yX3_isValley, .initialized RX3, .code yX3_isValley cX3_isValley 1 (some .boolean), .methodLink RX3 47 yX3_isIn, .static yX3_isIn, .code yX3_isIn cX3_isIn 3 (some .boolean), .methodLink RX3 82 yX3_failed, .instanceMethod yX3_failed, .selects RX3 yX3_failed yX3_failed, .code yX3_failed cX3_failed 2 (some .boolean), .methodLink RX3 51 yX3_has, .static yX3_has, .code yX3_has cX3_has 2 (some .boolean)] ++ wsX30)
def wsX3_turnMoral : List Cond := .code yX3_turnMoral cX3_turnMoral 3 (some .boolean) :: ([.fieldLink RX3 40 "FableIndexModel" "thrown" "I", .fieldLink RX3 25 "FableIndexModel" "morals" "[I", .methodLink RX3 62 yX3_isValley, .static yX3_isValley, .initialized RX3, .code yX3_isValley cX3_isValley 1 (some .boolean), .methodLink RX3 47 yX3_isIn, .static yX3_isIn, .code yX3_isIn cX3_isIn 3 (some .boolean), .methodLink RX3 55 yX3_isMoral, .static yX3_isMoral, .code yX3_isMoral cX3_isMoral 1 (some .boolean), .methodLink RX3 82 yX3_failed, .instanceMethod yX3_failed, .selects RX3 yX3_failed yX3_failed, .code yX3_failed cX3_failed 2 (some .boolean), .methodLink RX3 51 yX3_has, .static yX3_has, .code yX3_has cX3_has 2 (some .boolean)] ++ wsX30)
def wsX3_turnBeast : List Cond := .code yX3_turnBeast cX3_turnBeast 3 (some .boolean) :: ([.fieldLink RX3 40 "FableIndexModel" "thrown" "I", .fieldLink RX3 28 "FableIndexModel" "bans" "[I", .methodLink RX3 62 yX3_isValley, .static yX3_isValley, .initialized RX3, .code yX3_isValley cX3_isValley 1 (some .boolean), .methodLink RX3 47 yX3_isIn, .static yX3_isIn, .code yX3_isIn cX3_isIn 3 (some .boolean), .methodLink RX3 59 yX3_isBeast, .static yX3_isBeast, .code yX3_isBeast cX3_isBeast 1 (some .boolean), .methodLink RX3 82 yX3_failed, .instanceMethod yX3_failed, .selects RX3 yX3_failed yX3_failed, .code yX3_failed cX3_failed 2 (some .boolean), .methodLink RX3 51 yX3_has, .static yX3_has, .code yX3_has cX3_has 2 (some .boolean)] ++ wsX30)
def wsX3_isPlace : List Cond := .code yX3_isPlace cX3_isPlace 3 (some .boolean) :: ([.methodLink RX3 73 yX3_isFable, .instanceMethod yX3_isFable, .selects RX3 yX3_isFable yX3_isFable, .initialized RX3, .code yX3_isFable cX3_isFable 2 (some .boolean), .fieldLink RX3 44 "FableIndexModel" "fables" "I", .methodLink RX3 47 yX3_isIn, .static yX3_isIn, .code yX3_isIn cX3_isIn 3 (some .boolean), .methodLink RX3 62 yX3_isValley, .static yX3_isValley, .code yX3_isValley cX3_isValley 1 (some .boolean)] ++ wsX30)
def wsX3_placesOf : List Cond := .code yX3_placesOf cX3_placesOf 4 (some .int) :: ([.fieldLink RX3 22 "FableIndexModel" "told" "[I", .methodLink RX3 51 yX3_has, .static yX3_has, .initialized RX3, .code yX3_has cX3_has 2 (some .boolean)] ++ wsX30)
def wsX3_tell_r1 : List Cond := [Cond.fieldLink RX3 40 "FableIndexModel" "thrown" "I", Cond.fieldLink RX3 22 "FableIndexModel" "told" "[I", Cond.methodLink RX3 85 yX3_isPlace, Cond.instanceMethod yX3_isPlace, Cond.selects RX3 yX3_isPlace yX3_isPlace, Cond.initialized RX3, Cond.code yX3_isPlace cX3_isPlace 3 (some .boolean), Cond.methodLink RX3 73 yX3_isFable, Cond.instanceMethod yX3_isFable, Cond.selects RX3 yX3_isFable yX3_isFable, Cond.code yX3_isFable cX3_isFable 2 (some .boolean), Cond.fieldLink RX3 44 "FableIndexModel" "fables" "I", Cond.methodLink RX3 47 yX3_isIn, Cond.static yX3_isIn, Cond.code yX3_isIn cX3_isIn 3 (some .boolean), Cond.methodLink RX3 62 yX3_isValley, Cond.static yX3_isValley, Cond.code yX3_isValley cX3_isValley 1 (some .boolean), Cond.methodLink RX3 65 yX3_fail, Cond.instanceMethod yX3_fail, Cond.selects RX3 yX3_fail yX3_fail, Cond.code yX3_fail cX3_fail 2 (some .int), Cond.methodLink RX3 51 yX3_has, Cond.static yX3_has]
def wsX3_tell_r2 : List Cond := [Cond.code yX3_has cX3_has 2 (some .boolean), Cond.methodLink RX3 88 yX3_banned, Cond.instanceMethod yX3_banned, Cond.selects RX3 yX3_banned yX3_banned, Cond.code yX3_banned cX3_banned 3 (some .boolean), Cond.fieldLink RX3 25 "FableIndexModel" "morals" "[I", Cond.fieldLink RX3 9 "FableIndexModel" "moral" "[I", Cond.fieldLink RX3 28 "FableIndexModel" "bans" "[I", Cond.fieldLink RX3 13 "FableIndexModel" "beasts" "[I", Cond.methodLink RX3 91 yX3_placesOf, Cond.instanceMethod yX3_placesOf, Cond.selects RX3 yX3_placesOf yX3_placesOf, Cond.code yX3_placesOf cX3_placesOf 4 (some .int)]
def wsX3_tell : List Cond := .code yX3_tell cX3_tell 3 (some .int) :: ((wsX3_tell_r1 ++ wsX3_tell_r2) ++ wsX30)
def wsX3_forget_r1 : List Cond := [Cond.fieldLink RX3 40 "FableIndexModel" "thrown" "I", Cond.fieldLink RX3 22 "FableIndexModel" "told" "[I", Cond.methodLink RX3 85 yX3_isPlace, Cond.instanceMethod yX3_isPlace, Cond.selects RX3 yX3_isPlace yX3_isPlace, Cond.initialized RX3, Cond.code yX3_isPlace cX3_isPlace 3 (some .boolean), Cond.methodLink RX3 73 yX3_isFable, Cond.instanceMethod yX3_isFable, Cond.selects RX3 yX3_isFable yX3_isFable, Cond.code yX3_isFable cX3_isFable 2 (some .boolean), Cond.fieldLink RX3 44 "FableIndexModel" "fables" "I", Cond.methodLink RX3 47 yX3_isIn, Cond.static yX3_isIn, Cond.code yX3_isIn cX3_isIn 3 (some .boolean), Cond.methodLink RX3 62 yX3_isValley, Cond.static yX3_isValley, Cond.code yX3_isValley cX3_isValley 1 (some .boolean), Cond.methodLink RX3 65 yX3_fail, Cond.instanceMethod yX3_fail, Cond.selects RX3 yX3_fail yX3_fail, Cond.code yX3_fail cX3_fail 2 (some .int), Cond.methodLink RX3 51 yX3_has, Cond.static yX3_has]
def wsX3_forget_r2 : List Cond := [Cond.code yX3_has cX3_has 2 (some .boolean), Cond.methodLink RX3 91 yX3_placesOf, Cond.instanceMethod yX3_placesOf, Cond.selects RX3 yX3_placesOf yX3_placesOf, Cond.code yX3_placesOf cX3_placesOf 4 (some .int)]
def wsX3_forget : List Cond := .code yX3_forget cX3_forget 3 (some .int) :: ((wsX3_forget_r1 ++ wsX3_forget_r2) ++ wsX30)
def wsX3_all : List Cond := .code yX3_all cX3_all 6 (some .int) :: ([.fieldLink RX3 22 "FableIndexModel" "told" "[I", .methodLink RX3 79 yX3_many, .static yX3_many, .initialized RX3, .code yX3_many cX3_many 3 (some .int)] ++ wsX30)
def wsX3_comes : List Cond := .code yX3_comes cX3_comes 4 (some .int) :: ([.fieldLink RX3 25 "FableIndexModel" "morals" "[I", .fieldLink RX3 9 "FableIndexModel" "moral" "[I", .fieldLink RX3 44 "FableIndexModel" "fables" "I", .fieldLink RX3 19 "FableIndexModel" "parent" "[I", .methodLink RX3 88 yX3_banned, .instanceMethod yX3_banned, .selects RX3 yX3_banned yX3_banned, .initialized RX3, .code yX3_banned cX3_banned 3 (some .boolean), .fieldLink RX3 28 "FableIndexModel" "bans" "[I", .fieldLink RX3 13 "FableIndexModel" "beasts" "[I", .methodLink RX3 51 yX3_has, .static yX3_has, .code yX3_has cX3_has 2 (some .boolean)] ++ wsX30)
def wsX3_seasonOn_r1 : List Cond := [Cond.fieldLink RX3 44 "FableIndexModel" "fables" "I", Cond.fieldLink RX3 22 "FableIndexModel" "told" "[I", Cond.fieldLink RX3 34 "FableIndexModel" "next" "[I", Cond.fieldLink RX3 31 "FableIndexModel" "passes" "[I", Cond.methodLink RX3 98 arraycopyName, Cond.native arraycopyName, Cond.static arraycopyName, Cond.initialized "java/lang/System", Cond.methodLink RX3 51 yX3_has, Cond.static yX3_has, Cond.initialized RX3, Cond.code yX3_has cX3_has 2 (some .boolean), Cond.methodLink RX3 88 yX3_banned, Cond.instanceMethod yX3_banned, Cond.selects RX3 yX3_banned yX3_banned, Cond.code yX3_banned cX3_banned 3 (some .boolean), Cond.fieldLink RX3 25 "FableIndexModel" "morals" "[I", Cond.fieldLink RX3 9 "FableIndexModel" "moral" "[I", Cond.fieldLink RX3 28 "FableIndexModel" "bans" "[I", Cond.fieldLink RX3 13 "FableIndexModel" "beasts" "[I", Cond.methodLink RX3 94 yX3_comes, Cond.instanceMethod yX3_comes, Cond.selects RX3 yX3_comes yX3_comes, Cond.code yX3_comes cX3_comes 4 (some .int)]
def wsX3_seasonOn_r2 : List Cond := [Cond.fieldLink RX3 19 "FableIndexModel" "parent" "[I"]
def wsX3_seasonOn : List Cond := .code yX3_seasonOn cX3_seasonOn 6 (some .int) :: ((wsX3_seasonOn_r1 ++ wsX3_seasonOn_r2) ++ wsX30)
def wsX3_passSeasons_r1 : List Cond := [Cond.fieldLink RX3 40 "FableIndexModel" "thrown" "I", Cond.fieldLink RX3 104 "FableIndexModel" "silenced" "I", Cond.fieldLink RX3 111 "FableIndexModel" "season" "I", Cond.methodLink RX3 47 yX3_isIn, Cond.static yX3_isIn, Cond.initialized RX3, Cond.code yX3_isIn cX3_isIn 3 (some .boolean), Cond.methodLink RX3 65 yX3_fail, Cond.instanceMethod yX3_fail, Cond.selects RX3 yX3_fail yX3_fail, Cond.code yX3_fail cX3_fail 2 (some .int), Cond.methodLink RX3 107 yX3_seasonOn, Cond.instanceMethod yX3_seasonOn, Cond.selects RX3 yX3_seasonOn yX3_seasonOn, Cond.code yX3_seasonOn cX3_seasonOn 6 (some .int), Cond.fieldLink RX3 44 "FableIndexModel" "fables" "I", Cond.fieldLink RX3 22 "FableIndexModel" "told" "[I", Cond.fieldLink RX3 34 "FableIndexModel" "next" "[I", Cond.fieldLink RX3 31 "FableIndexModel" "passes" "[I", Cond.methodLink RX3 98 arraycopyName, Cond.native arraycopyName, Cond.static arraycopyName, Cond.initialized "java/lang/System", Cond.methodLink RX3 51 yX3_has]
def wsX3_passSeasons_r2 : List Cond := [Cond.static yX3_has, Cond.code yX3_has cX3_has 2 (some .boolean), Cond.methodLink RX3 88 yX3_banned, Cond.instanceMethod yX3_banned, Cond.selects RX3 yX3_banned yX3_banned, Cond.code yX3_banned cX3_banned 3 (some .boolean), Cond.fieldLink RX3 25 "FableIndexModel" "morals" "[I", Cond.fieldLink RX3 9 "FableIndexModel" "moral" "[I", Cond.fieldLink RX3 28 "FableIndexModel" "bans" "[I", Cond.fieldLink RX3 13 "FableIndexModel" "beasts" "[I", Cond.methodLink RX3 94 yX3_comes, Cond.instanceMethod yX3_comes, Cond.selects RX3 yX3_comes yX3_comes, Cond.code yX3_comes cX3_comes 4 (some .int), Cond.fieldLink RX3 19 "FableIndexModel" "parent" "[I", Cond.methodLink RX3 114 yX3_all, Cond.instanceMethod yX3_all, Cond.selects RX3 yX3_all yX3_all, Cond.code yX3_all cX3_all 6 (some .int), Cond.methodLink RX3 79 yX3_many, Cond.static yX3_many, Cond.code yX3_many cX3_many 3 (some .int)]
def wsX3_passSeasons : List Cond := .code yX3_passSeasons cX3_passSeasons 3 (some .int) :: ((wsX3_passSeasons_r1 ++ wsX3_passSeasons_r2) ++ wsX30)
def wsX3_moralOf : List Cond := .code yX3_moralOf cX3_moralOf 2 (some .int) :: ([.fieldLink RX3 40 "FableIndexModel" "thrown" "I", .fieldLink RX3 9 "FableIndexModel" "moral" "[I", .methodLink RX3 73 yX3_isFable, .instanceMethod yX3_isFable, .selects RX3 yX3_isFable yX3_isFable, .initialized RX3, .code yX3_isFable cX3_isFable 2 (some .boolean), .fieldLink RX3 44 "FableIndexModel" "fables" "I", .methodLink RX3 47 yX3_isIn, .static yX3_isIn, .code yX3_isIn cX3_isIn 3 (some .boolean), .methodLink RX3 65 yX3_fail, .instanceMethod yX3_fail, .selects RX3 yX3_fail yX3_fail, .code yX3_fail cX3_fail 2 (some .int)] ++ wsX30)
def wsX3_beastsOf : List Cond := .code yX3_beastsOf cX3_beastsOf 2 (some .int) :: ([.fieldLink RX3 40 "FableIndexModel" "thrown" "I", .fieldLink RX3 13 "FableIndexModel" "beasts" "[I", .methodLink RX3 73 yX3_isFable, .instanceMethod yX3_isFable, .selects RX3 yX3_isFable yX3_isFable, .initialized RX3, .code yX3_isFable cX3_isFable 2 (some .boolean), .fieldLink RX3 44 "FableIndexModel" "fables" "I", .methodLink RX3 47 yX3_isIn, .static yX3_isIn, .code yX3_isIn cX3_isIn 3 (some .boolean), .methodLink RX3 79 yX3_many, .static yX3_many, .code yX3_many cX3_many 3 (some .int), .methodLink RX3 65 yX3_fail, .instanceMethod yX3_fail, .selects RX3 yX3_fail yX3_fail, .code yX3_fail cX3_fail 2 (some .int)] ++ wsX30)
def wsX3_hasBeast : List Cond := .code yX3_hasBeast cX3_hasBeast 3 (some .boolean) :: ([.fieldLink RX3 40 "FableIndexModel" "thrown" "I", .fieldLink RX3 13 "FableIndexModel" "beasts" "[I", .methodLink RX3 73 yX3_isFable, .instanceMethod yX3_isFable, .selects RX3 yX3_isFable yX3_isFable, .initialized RX3, .code yX3_isFable cX3_isFable 2 (some .boolean), .fieldLink RX3 44 "FableIndexModel" "fables" "I", .methodLink RX3 47 yX3_isIn, .static yX3_isIn, .code yX3_isIn cX3_isIn 3 (some .boolean), .methodLink RX3 59 yX3_isBeast, .static yX3_isBeast, .code yX3_isBeast cX3_isBeast 1 (some .boolean), .methodLink RX3 51 yX3_has, .static yX3_has, .code yX3_has cX3_has 2 (some .boolean), .methodLink RX3 82 yX3_failed, .instanceMethod yX3_failed, .selects RX3 yX3_failed yX3_failed, .code yX3_failed cX3_failed 2 (some .boolean)] ++ wsX30)
def wsX3_homeOf : List Cond := .code yX3_homeOf cX3_homeOf 2 (some .int) :: ([.fieldLink RX3 40 "FableIndexModel" "thrown" "I", .fieldLink RX3 16 "FableIndexModel" "home" "[I", .methodLink RX3 73 yX3_isFable, .instanceMethod yX3_isFable, .selects RX3 yX3_isFable yX3_isFable, .initialized RX3, .code yX3_isFable cX3_isFable 2 (some .boolean), .fieldLink RX3 44 "FableIndexModel" "fables" "I", .methodLink RX3 47 yX3_isIn, .static yX3_isIn, .code yX3_isIn cX3_isIn 3 (some .boolean), .methodLink RX3 65 yX3_fail, .instanceMethod yX3_fail, .selects RX3 yX3_fail yX3_fail, .code yX3_fail cX3_fail 2 (some .int)] ++ wsX30)
def wsX3_parentOf : List Cond := .code yX3_parentOf cX3_parentOf 2 (some .int) :: ([.fieldLink RX3 40 "FableIndexModel" "thrown" "I", .fieldLink RX3 19 "FableIndexModel" "parent" "[I", .methodLink RX3 73 yX3_isFable, .instanceMethod yX3_isFable, .selects RX3 yX3_isFable yX3_isFable, .initialized RX3, .code yX3_isFable cX3_isFable 2 (some .boolean), .fieldLink RX3 44 "FableIndexModel" "fables" "I", .methodLink RX3 47 yX3_isIn, .static yX3_isIn, .code yX3_isIn cX3_isIn 3 (some .boolean), .methodLink RX3 65 yX3_fail, .instanceMethod yX3_fail, .selects RX3 yX3_fail yX3_fail, .code yX3_fail cX3_fail 2 (some .int)] ++ wsX30)
def wsX3_variantsOf : List Cond := .code yX3_variantsOf cX3_variantsOf 2 (some .int) :: ([.fieldLink RX3 40 "FableIndexModel" "thrown" "I", .methodLink RX3 73 yX3_isFable, .instanceMethod yX3_isFable, .selects RX3 yX3_isFable yX3_isFable, .initialized RX3, .code yX3_isFable cX3_isFable 2 (some .boolean), .fieldLink RX3 44 "FableIndexModel" "fables" "I", .methodLink RX3 47 yX3_isIn, .static yX3_isIn, .code yX3_isIn cX3_isIn 3 (some .boolean), .methodLink RX3 76 yX3_children, .instanceMethod yX3_children, .selects RX3 yX3_children yX3_children, .code yX3_children cX3_children 4 (some .int), .fieldLink RX3 19 "FableIndexModel" "parent" "[I", .methodLink RX3 65 yX3_fail, .instanceMethod yX3_fail, .selects RX3 yX3_fail yX3_fail, .code yX3_fail cX3_fail 2 (some .int)] ++ wsX30)
def wsX3_valleysOf : List Cond := .code yX3_valleysOf cX3_valleysOf 2 (some .int) :: ([.fieldLink RX3 40 "FableIndexModel" "thrown" "I", .methodLink RX3 73 yX3_isFable, .instanceMethod yX3_isFable, .selects RX3 yX3_isFable yX3_isFable, .initialized RX3, .code yX3_isFable cX3_isFable 2 (some .boolean), .fieldLink RX3 44 "FableIndexModel" "fables" "I", .methodLink RX3 47 yX3_isIn, .static yX3_isIn, .code yX3_isIn cX3_isIn 3 (some .boolean), .methodLink RX3 91 yX3_placesOf, .instanceMethod yX3_placesOf, .selects RX3 yX3_placesOf yX3_placesOf, .code yX3_placesOf cX3_placesOf 4 (some .int), .fieldLink RX3 22 "FableIndexModel" "told" "[I", .methodLink RX3 51 yX3_has, .static yX3_has, .code yX3_has cX3_has 2 (some .boolean), .methodLink RX3 65 yX3_fail, .instanceMethod yX3_fail, .selects RX3 yX3_fail yX3_fail, .code yX3_fail cX3_fail 2 (some .int)] ++ wsX30)
def wsX3_ancestors : List Cond := .code yX3_ancestors cX3_ancestors 4 (some .int) :: ([.fieldLink RX3 19 "FableIndexModel" "parent" "[I"] ++ wsX30)
def wsX3_nearest : List Cond := .code yX3_nearest cX3_nearest 5 (some .int) :: ([.fieldLink RX3 44 "FableIndexModel" "fables" "I", .methodLink RX3 117 yX3_ancestors, .instanceMethod yX3_ancestors, .selects RX3 yX3_ancestors yX3_ancestors, .initialized RX3, .code yX3_ancestors cX3_ancestors 4 (some .int), .fieldLink RX3 19 "FableIndexModel" "parent" "[I", .methodLink RX3 51 yX3_has, .static yX3_has, .code yX3_has cX3_has 2 (some .boolean)] ++ wsX30)
def wsX3_nearestAncestor_r1 : List Cond := [Cond.fieldLink RX3 40 "FableIndexModel" "thrown" "I", Cond.methodLink RX3 73 yX3_isFable, Cond.instanceMethod yX3_isFable, Cond.selects RX3 yX3_isFable yX3_isFable, Cond.initialized RX3, Cond.code yX3_isFable cX3_isFable 2 (some .boolean), Cond.fieldLink RX3 44 "FableIndexModel" "fables" "I", Cond.methodLink RX3 47 yX3_isIn, Cond.static yX3_isIn, Cond.code yX3_isIn cX3_isIn 3 (some .boolean), Cond.methodLink RX3 120 yX3_nearest, Cond.instanceMethod yX3_nearest, Cond.selects RX3 yX3_nearest yX3_nearest, Cond.code yX3_nearest cX3_nearest 5 (some .int), Cond.methodLink RX3 117 yX3_ancestors, Cond.instanceMethod yX3_ancestors, Cond.selects RX3 yX3_ancestors yX3_ancestors, Cond.code yX3_ancestors cX3_ancestors 4 (some .int), Cond.fieldLink RX3 19 "FableIndexModel" "parent" "[I", Cond.methodLink RX3 51 yX3_has, Cond.static yX3_has, Cond.code yX3_has cX3_has 2 (some .boolean), Cond.methodLink RX3 65 yX3_fail, Cond.instanceMethod yX3_fail]
def wsX3_nearestAncestor_r2 : List Cond := [Cond.selects RX3 yX3_fail yX3_fail, Cond.code yX3_fail cX3_fail 2 (some .int)]
def wsX3_nearestAncestor : List Cond := .code yX3_nearestAncestor cX3_nearestAncestor 3 (some .int) :: ((wsX3_nearestAncestor_r1 ++ wsX3_nearestAncestor_r2) ++ wsX30)
def wsX3_kinship_r1 : List Cond := [Cond.fieldLink RX3 40 "FableIndexModel" "thrown" "I", Cond.methodLink RX3 73 yX3_isFable, Cond.instanceMethod yX3_isFable, Cond.selects RX3 yX3_isFable yX3_isFable, Cond.initialized RX3, Cond.code yX3_isFable cX3_isFable 2 (some .boolean), Cond.fieldLink RX3 44 "FableIndexModel" "fables" "I", Cond.methodLink RX3 47 yX3_isIn, Cond.static yX3_isIn, Cond.code yX3_isIn cX3_isIn 3 (some .boolean), Cond.methodLink RX3 65 yX3_fail, Cond.instanceMethod yX3_fail, Cond.selects RX3 yX3_fail yX3_fail, Cond.code yX3_fail cX3_fail 2 (some .int), Cond.methodLink RX3 120 yX3_nearest, Cond.instanceMethod yX3_nearest, Cond.selects RX3 yX3_nearest yX3_nearest, Cond.code yX3_nearest cX3_nearest 5 (some .int), Cond.methodLink RX3 117 yX3_ancestors, Cond.instanceMethod yX3_ancestors, Cond.selects RX3 yX3_ancestors yX3_ancestors, Cond.code yX3_ancestors cX3_ancestors 4 (some .int), Cond.fieldLink RX3 19 "FableIndexModel" "parent" "[I", Cond.methodLink RX3 51 yX3_has]
def wsX3_kinship_r2 : List Cond := [Cond.static yX3_has, Cond.code yX3_has cX3_has 2 (some .boolean), Cond.methodLink RX3 79 yX3_many, Cond.static yX3_many, Cond.code yX3_many cX3_many 3 (some .int)]
def wsX3_kinship : List Cond := .code yX3_kinship cX3_kinship 4 (some .int) :: ((wsX3_kinship_r1 ++ wsX3_kinship_r2) ++ wsX30)
def wsX3_sharedBeasts : List Cond := .code yX3_sharedBeasts cX3_sharedBeasts 3 (some .int) :: ([.fieldLink RX3 40 "FableIndexModel" "thrown" "I", .fieldLink RX3 13 "FableIndexModel" "beasts" "[I", .methodLink RX3 73 yX3_isFable, .instanceMethod yX3_isFable, .selects RX3 yX3_isFable yX3_isFable, .initialized RX3, .code yX3_isFable cX3_isFable 2 (some .boolean), .fieldLink RX3 44 "FableIndexModel" "fables" "I", .methodLink RX3 47 yX3_isIn, .static yX3_isIn, .code yX3_isIn cX3_isIn 3 (some .boolean), .methodLink RX3 79 yX3_many, .static yX3_many, .code yX3_many cX3_many 3 (some .int), .methodLink RX3 65 yX3_fail, .instanceMethod yX3_fail, .selects RX3 yX3_fail yX3_fail, .code yX3_fail cX3_fail 2 (some .int)] ++ wsX30)
def wsX3_isOpen : List Cond := .code yX3_isOpen cX3_isOpen 3 (some .boolean) :: ([.fieldLink RX3 40 "FableIndexModel" "thrown" "I", .fieldLink RX3 31 "FableIndexModel" "passes" "[I", .methodLink RX3 62 yX3_isValley, .static yX3_isValley, .initialized RX3, .code yX3_isValley cX3_isValley 1 (some .boolean), .methodLink RX3 47 yX3_isIn, .static yX3_isIn, .code yX3_isIn cX3_isIn 3 (some .boolean), .methodLink RX3 51 yX3_has, .static yX3_has, .code yX3_has cX3_has 2 (some .boolean), .methodLink RX3 82 yX3_failed, .instanceMethod yX3_failed, .selects RX3 yX3_failed yX3_failed, .code yX3_failed cX3_failed 2 (some .boolean)] ++ wsX30)
def wsX3_isBanned_r1 : List Cond := [Cond.fieldLink RX3 40 "FableIndexModel" "thrown" "I", Cond.methodLink RX3 85 yX3_isPlace, Cond.instanceMethod yX3_isPlace, Cond.selects RX3 yX3_isPlace yX3_isPlace, Cond.initialized RX3, Cond.code yX3_isPlace cX3_isPlace 3 (some .boolean), Cond.methodLink RX3 73 yX3_isFable, Cond.instanceMethod yX3_isFable, Cond.selects RX3 yX3_isFable yX3_isFable, Cond.code yX3_isFable cX3_isFable 2 (some .boolean), Cond.fieldLink RX3 44 "FableIndexModel" "fables" "I", Cond.methodLink RX3 47 yX3_isIn, Cond.static yX3_isIn, Cond.code yX3_isIn cX3_isIn 3 (some .boolean), Cond.methodLink RX3 62 yX3_isValley, Cond.static yX3_isValley, Cond.code yX3_isValley cX3_isValley 1 (some .boolean), Cond.methodLink RX3 88 yX3_banned, Cond.instanceMethod yX3_banned, Cond.selects RX3 yX3_banned yX3_banned, Cond.code yX3_banned cX3_banned 3 (some .boolean), Cond.fieldLink RX3 25 "FableIndexModel" "morals" "[I", Cond.fieldLink RX3 9 "FableIndexModel" "moral" "[I", Cond.fieldLink RX3 28 "FableIndexModel" "bans" "[I"]
def wsX3_isBanned_r2 : List Cond := [Cond.fieldLink RX3 13 "FableIndexModel" "beasts" "[I", Cond.methodLink RX3 51 yX3_has, Cond.static yX3_has, Cond.code yX3_has cX3_has 2 (some .boolean), Cond.methodLink RX3 82 yX3_failed, Cond.instanceMethod yX3_failed, Cond.selects RX3 yX3_failed yX3_failed, Cond.code yX3_failed cX3_failed 2 (some .boolean)]
def wsX3_isBanned : List Cond := .code yX3_isBanned cX3_isBanned 3 (some .boolean) :: ((wsX3_isBanned_r1 ++ wsX3_isBanned_r2) ++ wsX30)
def wsX3_isTold_r1 : List Cond := [Cond.fieldLink RX3 40 "FableIndexModel" "thrown" "I", Cond.fieldLink RX3 22 "FableIndexModel" "told" "[I", Cond.methodLink RX3 85 yX3_isPlace, Cond.instanceMethod yX3_isPlace, Cond.selects RX3 yX3_isPlace yX3_isPlace, Cond.initialized RX3, Cond.code yX3_isPlace cX3_isPlace 3 (some .boolean), Cond.methodLink RX3 73 yX3_isFable, Cond.instanceMethod yX3_isFable, Cond.selects RX3 yX3_isFable yX3_isFable, Cond.code yX3_isFable cX3_isFable 2 (some .boolean), Cond.fieldLink RX3 44 "FableIndexModel" "fables" "I", Cond.methodLink RX3 47 yX3_isIn, Cond.static yX3_isIn, Cond.code yX3_isIn cX3_isIn 3 (some .boolean), Cond.methodLink RX3 62 yX3_isValley, Cond.static yX3_isValley, Cond.code yX3_isValley cX3_isValley 1 (some .boolean), Cond.methodLink RX3 51 yX3_has, Cond.static yX3_has, Cond.code yX3_has cX3_has 2 (some .boolean), Cond.methodLink RX3 82 yX3_failed, Cond.instanceMethod yX3_failed, Cond.selects RX3 yX3_failed yX3_failed]
def wsX3_isTold_r2 : List Cond := [Cond.code yX3_failed cX3_failed 2 (some .boolean)]
def wsX3_isTold : List Cond := .code yX3_isTold cX3_isTold 3 (some .boolean) :: ((wsX3_isTold_r1 ++ wsX3_isTold_r2) ++ wsX30)
def wsX3_toldIn : List Cond := .code yX3_toldIn cX3_toldIn 2 (some .int) :: ([.fieldLink RX3 40 "FableIndexModel" "thrown" "I", .fieldLink RX3 22 "FableIndexModel" "told" "[I", .methodLink RX3 62 yX3_isValley, .static yX3_isValley, .initialized RX3, .code yX3_isValley cX3_isValley 1 (some .boolean), .methodLink RX3 47 yX3_isIn, .static yX3_isIn, .code yX3_isIn cX3_isIn 3 (some .boolean), .methodLink RX3 79 yX3_many, .static yX3_many, .code yX3_many cX3_many 3 (some .int), .methodLink RX3 65 yX3_fail, .instanceMethod yX3_fail, .selects RX3 yX3_fail yX3_fail, .code yX3_fail cX3_fail 2 (some .int)] ++ wsX30)
def wsX3_allowed : List Cond := .code yX3_allowed cX3_allowed 4 (some .int) :: ([.fieldLink RX3 44 "FableIndexModel" "fables" "I", .methodLink RX3 88 yX3_banned, .instanceMethod yX3_banned, .selects RX3 yX3_banned yX3_banned, .initialized RX3, .code yX3_banned cX3_banned 3 (some .boolean), .fieldLink RX3 25 "FableIndexModel" "morals" "[I", .fieldLink RX3 9 "FableIndexModel" "moral" "[I", .fieldLink RX3 28 "FableIndexModel" "bans" "[I", .fieldLink RX3 13 "FableIndexModel" "beasts" "[I", .methodLink RX3 51 yX3_has, .static yX3_has, .code yX3_has cX3_has 2 (some .boolean)] ++ wsX30)
def wsX3_allowedIn_r1 : List Cond := [Cond.fieldLink RX3 40 "FableIndexModel" "thrown" "I", Cond.methodLink RX3 62 yX3_isValley, Cond.static yX3_isValley, Cond.initialized RX3, Cond.code yX3_isValley cX3_isValley 1 (some .boolean), Cond.methodLink RX3 47 yX3_isIn, Cond.static yX3_isIn, Cond.code yX3_isIn cX3_isIn 3 (some .boolean), Cond.methodLink RX3 123 yX3_allowed, Cond.instanceMethod yX3_allowed, Cond.selects RX3 yX3_allowed yX3_allowed, Cond.code yX3_allowed cX3_allowed 4 (some .int), Cond.fieldLink RX3 44 "FableIndexModel" "fables" "I", Cond.methodLink RX3 88 yX3_banned, Cond.instanceMethod yX3_banned, Cond.selects RX3 yX3_banned yX3_banned, Cond.code yX3_banned cX3_banned 3 (some .boolean), Cond.fieldLink RX3 25 "FableIndexModel" "morals" "[I", Cond.fieldLink RX3 9 "FableIndexModel" "moral" "[I", Cond.fieldLink RX3 28 "FableIndexModel" "bans" "[I", Cond.fieldLink RX3 13 "FableIndexModel" "beasts" "[I", Cond.methodLink RX3 51 yX3_has, Cond.static yX3_has, Cond.code yX3_has cX3_has 2 (some .boolean)]
def wsX3_allowedIn_r2 : List Cond := [Cond.methodLink RX3 65 yX3_fail, Cond.instanceMethod yX3_fail, Cond.selects RX3 yX3_fail yX3_fail, Cond.code yX3_fail cX3_fail 2 (some .int)]
def wsX3_allowedIn : List Cond := .code yX3_allowedIn cX3_allowedIn 2 (some .int) :: ((wsX3_allowedIn_r1 ++ wsX3_allowedIn_r2) ++ wsX30)
def wsX3_bansIn : List Cond := .code yX3_bansIn cX3_bansIn 2 (some .int) :: ([.fieldLink RX3 25 "FableIndexModel" "morals" "[I", .fieldLink RX3 28 "FableIndexModel" "bans" "[I", .methodLink RX3 79 yX3_many, .static yX3_many, .initialized RX3, .code yX3_many cX3_many 3 (some .int)] ++ wsX30)
def wsX3_bansOf : List Cond := .code yX3_bansOf cX3_bansOf 2 (some .int) :: ([.fieldLink RX3 40 "FableIndexModel" "thrown" "I", .methodLink RX3 62 yX3_isValley, .static yX3_isValley, .initialized RX3, .code yX3_isValley cX3_isValley 1 (some .boolean), .methodLink RX3 47 yX3_isIn, .static yX3_isIn, .code yX3_isIn cX3_isIn 3 (some .boolean), .methodLink RX3 126 yX3_bansIn, .instanceMethod yX3_bansIn, .selects RX3 yX3_bansIn yX3_bansIn, .code yX3_bansIn cX3_bansIn 2 (some .int), .fieldLink RX3 25 "FableIndexModel" "morals" "[I", .fieldLink RX3 28 "FableIndexModel" "bans" "[I", .methodLink RX3 79 yX3_many, .static yX3_many, .code yX3_many cX3_many 3 (some .int), .methodLink RX3 65 yX3_fail, .instanceMethod yX3_fail, .selects RX3 yX3_fail yX3_fail, .code yX3_fail cX3_fail 2 (some .int)] ++ wsX30)
def wsX3_fables : List Cond := .code yX3_fables cX3_fables 1 (some .int) :: ([.fieldLink RX3 40 "FableIndexModel" "thrown" "I", .fieldLink RX3 44 "FableIndexModel" "fables" "I"] ++ wsX30)
def wsX3_season : List Cond := .code yX3_season cX3_season 1 (some .int) :: ([.fieldLink RX3 40 "FableIndexModel" "thrown" "I", .fieldLink RX3 111 "FableIndexModel" "season" "I"] ++ wsX30)
def wsX3_tellings : List Cond := .code yX3_tellings cX3_tellings 1 (some .int) :: ([.fieldLink RX3 40 "FableIndexModel" "thrown" "I", .methodLink RX3 114 yX3_all, .instanceMethod yX3_all, .selects RX3 yX3_all yX3_all, .initialized RX3, .code yX3_all cX3_all 6 (some .int), .fieldLink RX3 22 "FableIndexModel" "told" "[I", .methodLink RX3 79 yX3_many, .static yX3_many, .code yX3_many cX3_many 3 (some .int)] ++ wsX30)
def wsX3_silenced : List Cond := .code yX3_silenced cX3_silenced 1 (some .int) :: ([.fieldLink RX3 40 "FableIndexModel" "thrown" "I", .fieldLink RX3 104 "FableIndexModel" "silenced" "I"] ++ wsX30)
def wsX3_fablesWithMoral : List Cond := .code yX3_fablesWithMoral cX3_fablesWithMoral 4 (some .int) :: ([.fieldLink RX3 40 "FableIndexModel" "thrown" "I", .fieldLink RX3 44 "FableIndexModel" "fables" "I", .fieldLink RX3 9 "FableIndexModel" "moral" "[I", .methodLink RX3 55 yX3_isMoral, .static yX3_isMoral, .initialized RX3, .code yX3_isMoral cX3_isMoral 1 (some .boolean), .methodLink RX3 47 yX3_isIn, .static yX3_isIn, .code yX3_isIn cX3_isIn 3 (some .boolean), .methodLink RX3 65 yX3_fail, .instanceMethod yX3_fail, .selects RX3 yX3_fail yX3_fail, .code yX3_fail cX3_fail 2 (some .int)] ++ wsX30)
def wsX3_fablesWithBeast : List Cond := .code yX3_fablesWithBeast cX3_fablesWithBeast 4 (some .int) :: ([.fieldLink RX3 40 "FableIndexModel" "thrown" "I", .fieldLink RX3 44 "FableIndexModel" "fables" "I", .fieldLink RX3 13 "FableIndexModel" "beasts" "[I", .methodLink RX3 59 yX3_isBeast, .static yX3_isBeast, .initialized RX3, .code yX3_isBeast cX3_isBeast 1 (some .boolean), .methodLink RX3 47 yX3_isIn, .static yX3_isIn, .code yX3_isIn cX3_isIn 3 (some .boolean), .methodLink RX3 65 yX3_fail, .instanceMethod yX3_fail, .selects RX3 yX3_fail yX3_fail, .code yX3_fail cX3_fail 2 (some .int), .methodLink RX3 51 yX3_has, .static yX3_has, .code yX3_has cX3_has 2 (some .boolean)] ++ wsX30)
def wsX3_favourite : List Cond := .code yX3_favourite cX3_favourite 7 (some .int) :: ([.fieldLink RX3 44 "FableIndexModel" "fables" "I", .fieldLink RX3 9 "FableIndexModel" "moral" "[I", .fieldLink RX3 13 "FableIndexModel" "beasts" "[I", .methodLink RX3 51 yX3_has, .static yX3_has, .initialized RX3, .code yX3_has cX3_has 2 (some .boolean), .methodLink RX3 91 yX3_placesOf, .instanceMethod yX3_placesOf, .selects RX3 yX3_placesOf yX3_placesOf, .code yX3_placesOf cX3_placesOf 4 (some .int), .fieldLink RX3 22 "FableIndexModel" "told" "[I"] ++ wsX30)
def wsX3_favouriteMoral : List Cond := .code yX3_favouriteMoral cX3_favouriteMoral 1 (some .int) :: ([.fieldLink RX3 40 "FableIndexModel" "thrown" "I", .methodLink RX3 129 yX3_favourite, .instanceMethod yX3_favourite, .selects RX3 yX3_favourite yX3_favourite, .initialized RX3, .code yX3_favourite cX3_favourite 7 (some .int), .fieldLink RX3 44 "FableIndexModel" "fables" "I", .fieldLink RX3 9 "FableIndexModel" "moral" "[I", .fieldLink RX3 13 "FableIndexModel" "beasts" "[I", .methodLink RX3 51 yX3_has, .static yX3_has, .code yX3_has cX3_has 2 (some .boolean), .methodLink RX3 91 yX3_placesOf, .instanceMethod yX3_placesOf, .selects RX3 yX3_placesOf yX3_placesOf, .code yX3_placesOf cX3_placesOf 4 (some .int), .fieldLink RX3 22 "FableIndexModel" "told" "[I"] ++ wsX30)
def wsX3_favouriteBeast : List Cond := .code yX3_favouriteBeast cX3_favouriteBeast 1 (some .int) :: ([.fieldLink RX3 40 "FableIndexModel" "thrown" "I", .methodLink RX3 129 yX3_favourite, .instanceMethod yX3_favourite, .selects RX3 yX3_favourite yX3_favourite, .initialized RX3, .code yX3_favourite cX3_favourite 7 (some .int), .fieldLink RX3 44 "FableIndexModel" "fables" "I", .fieldLink RX3 9 "FableIndexModel" "moral" "[I", .fieldLink RX3 13 "FableIndexModel" "beasts" "[I", .methodLink RX3 51 yX3_has, .static yX3_has, .code yX3_has cX3_has 2 (some .boolean), .methodLink RX3 91 yX3_placesOf, .instanceMethod yX3_placesOf, .selects RX3 yX3_placesOf yX3_placesOf, .code yX3_placesOf cX3_placesOf 4 (some .int), .fieldLink RX3 22 "FableIndexModel" "told" "[I"] ++ wsX30)
def wsX3_keep : List Cond := .code yX3_keep cX3_keep 1 none :: ([.fieldLink RX3 22 "FableIndexModel" "told" "[I", .fieldLink RX3 37 "FableIndexModel" "kept" "[I", .methodLink RX3 98 arraycopyName, .native arraycopyName, .static arraycopyName, .initialized "java/lang/System"] ++ wsX30)
def wsX3_bringBack : List Cond := .code yX3_bringBack cX3_bringBack 1 none :: ([.fieldLink RX3 37 "FableIndexModel" "kept" "[I", .fieldLink RX3 22 "FableIndexModel" "told" "[I", .methodLink RX3 98 arraycopyName, .native arraycopyName, .static arraycopyName, .initialized "java/lang/System"] ++ wsX30)
def wsX3_seasonsUntil_r1 : List Cond := [Cond.fieldLink RX3 40 "FableIndexModel" "thrown" "I", Cond.fieldLink RX3 22 "FableIndexModel" "told" "[I", Cond.methodLink RX3 85 yX3_isPlace, Cond.instanceMethod yX3_isPlace, Cond.selects RX3 yX3_isPlace yX3_isPlace, Cond.initialized RX3, Cond.code yX3_isPlace cX3_isPlace 3 (some .boolean), Cond.methodLink RX3 73 yX3_isFable, Cond.instanceMethod yX3_isFable, Cond.selects RX3 yX3_isFable yX3_isFable, Cond.code yX3_isFable cX3_isFable 2 (some .boolean), Cond.fieldLink RX3 44 "FableIndexModel" "fables" "I", Cond.methodLink RX3 47 yX3_isIn, Cond.static yX3_isIn, Cond.code yX3_isIn cX3_isIn 3 (some .boolean), Cond.methodLink RX3 62 yX3_isValley, Cond.static yX3_isValley, Cond.code yX3_isValley cX3_isValley 1 (some .boolean), Cond.methodLink RX3 65 yX3_fail, Cond.instanceMethod yX3_fail, Cond.selects RX3 yX3_fail yX3_fail, Cond.code yX3_fail cX3_fail 2 (some .int), Cond.methodLink RX3 133 yX3_keep, Cond.instanceMethod yX3_keep]
def wsX3_seasonsUntil_r2 : List Cond := [Cond.selects RX3 yX3_keep yX3_keep, Cond.code yX3_keep cX3_keep 1 none, Cond.fieldLink RX3 37 "FableIndexModel" "kept" "[I", Cond.methodLink RX3 98 arraycopyName, Cond.native arraycopyName, Cond.static arraycopyName, Cond.initialized "java/lang/System", Cond.methodLink RX3 51 yX3_has, Cond.static yX3_has, Cond.code yX3_has cX3_has 2 (some .boolean), Cond.methodLink RX3 107 yX3_seasonOn, Cond.instanceMethod yX3_seasonOn, Cond.selects RX3 yX3_seasonOn yX3_seasonOn, Cond.code yX3_seasonOn cX3_seasonOn 6 (some .int), Cond.fieldLink RX3 34 "FableIndexModel" "next" "[I", Cond.fieldLink RX3 31 "FableIndexModel" "passes" "[I", Cond.methodLink RX3 88 yX3_banned, Cond.instanceMethod yX3_banned, Cond.selects RX3 yX3_banned yX3_banned, Cond.code yX3_banned cX3_banned 3 (some .boolean), Cond.fieldLink RX3 25 "FableIndexModel" "morals" "[I", Cond.fieldLink RX3 9 "FableIndexModel" "moral" "[I", Cond.fieldLink RX3 28 "FableIndexModel" "bans" "[I", Cond.fieldLink RX3 13 "FableIndexModel" "beasts" "[I"]
def wsX3_seasonsUntil_r3 : List Cond := [Cond.methodLink RX3 94 yX3_comes, Cond.instanceMethod yX3_comes, Cond.selects RX3 yX3_comes yX3_comes, Cond.code yX3_comes cX3_comes 4 (some .int), Cond.fieldLink RX3 19 "FableIndexModel" "parent" "[I", Cond.methodLink RX3 136 yX3_bringBack, Cond.instanceMethod yX3_bringBack, Cond.selects RX3 yX3_bringBack yX3_bringBack, Cond.code yX3_bringBack cX3_bringBack 1 none]
def wsX3_seasonsUntil : List Cond := .code yX3_seasonsUntil cX3_seasonsUntil 4 (some .int) :: ((wsX3_seasonsUntil_r1 ++ (wsX3_seasonsUntil_r2 ++ wsX3_seasonsUntil_r3)) ++ wsX30)
def wsX3_after_r1 : List Cond := [Cond.methodLink RX3 133 yX3_keep, Cond.instanceMethod yX3_keep, Cond.selects RX3 yX3_keep yX3_keep, Cond.initialized RX3, Cond.code yX3_keep cX3_keep 1 none, Cond.fieldLink RX3 22 "FableIndexModel" "told" "[I", Cond.fieldLink RX3 37 "FableIndexModel" "kept" "[I", Cond.methodLink RX3 98 arraycopyName, Cond.native arraycopyName, Cond.static arraycopyName, Cond.initialized "java/lang/System", Cond.methodLink RX3 107 yX3_seasonOn, Cond.instanceMethod yX3_seasonOn, Cond.selects RX3 yX3_seasonOn yX3_seasonOn, Cond.code yX3_seasonOn cX3_seasonOn 6 (some .int), Cond.fieldLink RX3 44 "FableIndexModel" "fables" "I", Cond.fieldLink RX3 34 "FableIndexModel" "next" "[I", Cond.fieldLink RX3 31 "FableIndexModel" "passes" "[I", Cond.methodLink RX3 51 yX3_has, Cond.static yX3_has, Cond.code yX3_has cX3_has 2 (some .boolean), Cond.methodLink RX3 88 yX3_banned, Cond.instanceMethod yX3_banned, Cond.selects RX3 yX3_banned yX3_banned]
def wsX3_after_r2 : List Cond := [Cond.code yX3_banned cX3_banned 3 (some .boolean), Cond.fieldLink RX3 25 "FableIndexModel" "morals" "[I", Cond.fieldLink RX3 9 "FableIndexModel" "moral" "[I", Cond.fieldLink RX3 28 "FableIndexModel" "bans" "[I", Cond.fieldLink RX3 13 "FableIndexModel" "beasts" "[I", Cond.methodLink RX3 94 yX3_comes, Cond.instanceMethod yX3_comes, Cond.selects RX3 yX3_comes yX3_comes, Cond.code yX3_comes cX3_comes 4 (some .int), Cond.fieldLink RX3 19 "FableIndexModel" "parent" "[I", Cond.methodLink RX3 114 yX3_all, Cond.instanceMethod yX3_all, Cond.selects RX3 yX3_all yX3_all, Cond.code yX3_all cX3_all 6 (some .int), Cond.methodLink RX3 79 yX3_many, Cond.static yX3_many, Cond.code yX3_many cX3_many 3 (some .int), Cond.methodLink RX3 136 yX3_bringBack, Cond.instanceMethod yX3_bringBack, Cond.selects RX3 yX3_bringBack yX3_bringBack, Cond.code yX3_bringBack cX3_bringBack 1 none]
def wsX3_after : List Cond := .code yX3_after cX3_after 3 (some .int) :: ((wsX3_after_r1 ++ wsX3_after_r2) ++ wsX30)
def wsX3_tellingsAfter_r1 : List Cond := [Cond.fieldLink RX3 40 "FableIndexModel" "thrown" "I", Cond.methodLink RX3 47 yX3_isIn, Cond.static yX3_isIn, Cond.initialized RX3, Cond.code yX3_isIn cX3_isIn 3 (some .boolean), Cond.methodLink RX3 139 yX3_after, Cond.instanceMethod yX3_after, Cond.selects RX3 yX3_after yX3_after, Cond.code yX3_after cX3_after 3 (some .int), Cond.methodLink RX3 133 yX3_keep, Cond.instanceMethod yX3_keep, Cond.selects RX3 yX3_keep yX3_keep, Cond.code yX3_keep cX3_keep 1 none, Cond.fieldLink RX3 22 "FableIndexModel" "told" "[I", Cond.fieldLink RX3 37 "FableIndexModel" "kept" "[I", Cond.methodLink RX3 98 arraycopyName, Cond.native arraycopyName, Cond.static arraycopyName, Cond.initialized "java/lang/System", Cond.methodLink RX3 107 yX3_seasonOn, Cond.instanceMethod yX3_seasonOn, Cond.selects RX3 yX3_seasonOn yX3_seasonOn, Cond.code yX3_seasonOn cX3_seasonOn 6 (some .int), Cond.fieldLink RX3 44 "FableIndexModel" "fables" "I"]
def wsX3_tellingsAfter_r2 : List Cond := [Cond.fieldLink RX3 34 "FableIndexModel" "next" "[I", Cond.fieldLink RX3 31 "FableIndexModel" "passes" "[I", Cond.methodLink RX3 51 yX3_has, Cond.static yX3_has, Cond.code yX3_has cX3_has 2 (some .boolean), Cond.methodLink RX3 88 yX3_banned, Cond.instanceMethod yX3_banned, Cond.selects RX3 yX3_banned yX3_banned, Cond.code yX3_banned cX3_banned 3 (some .boolean), Cond.fieldLink RX3 25 "FableIndexModel" "morals" "[I", Cond.fieldLink RX3 9 "FableIndexModel" "moral" "[I", Cond.fieldLink RX3 28 "FableIndexModel" "bans" "[I", Cond.fieldLink RX3 13 "FableIndexModel" "beasts" "[I", Cond.methodLink RX3 94 yX3_comes, Cond.instanceMethod yX3_comes, Cond.selects RX3 yX3_comes yX3_comes, Cond.code yX3_comes cX3_comes 4 (some .int), Cond.fieldLink RX3 19 "FableIndexModel" "parent" "[I", Cond.methodLink RX3 114 yX3_all, Cond.instanceMethod yX3_all, Cond.selects RX3 yX3_all yX3_all, Cond.code yX3_all cX3_all 6 (some .int), Cond.methodLink RX3 79 yX3_many, Cond.static yX3_many]
def wsX3_tellingsAfter_r3 : List Cond := [Cond.code yX3_many cX3_many 3 (some .int), Cond.methodLink RX3 136 yX3_bringBack, Cond.instanceMethod yX3_bringBack, Cond.selects RX3 yX3_bringBack yX3_bringBack, Cond.code yX3_bringBack cX3_bringBack 1 none, Cond.methodLink RX3 65 yX3_fail, Cond.instanceMethod yX3_fail, Cond.selects RX3 yX3_fail yX3_fail, Cond.code yX3_fail cX3_fail 2 (some .int)]
def wsX3_tellingsAfter : List Cond := .code yX3_tellingsAfter cX3_tellingsAfter 2 (some .int) :: ((wsX3_tellingsAfter_r1 ++ (wsX3_tellingsAfter_r2 ++ wsX3_tellingsAfter_r3)) ++ wsX30)
def wsX3_bestPass_r1 : List Cond := [Cond.fieldLink RX3 40 "FableIndexModel" "thrown" "I", Cond.fieldLink RX3 31 "FableIndexModel" "passes" "[I", Cond.methodLink RX3 47 yX3_isIn, Cond.static yX3_isIn, Cond.initialized RX3, Cond.code yX3_isIn cX3_isIn 3 (some .boolean), Cond.methodLink RX3 65 yX3_fail, Cond.instanceMethod yX3_fail, Cond.selects RX3 yX3_fail yX3_fail, Cond.code yX3_fail cX3_fail 2 (some .int), Cond.methodLink RX3 139 yX3_after, Cond.instanceMethod yX3_after, Cond.selects RX3 yX3_after yX3_after, Cond.code yX3_after cX3_after 3 (some .int), Cond.methodLink RX3 133 yX3_keep, Cond.instanceMethod yX3_keep, Cond.selects RX3 yX3_keep yX3_keep, Cond.code yX3_keep cX3_keep 1 none, Cond.fieldLink RX3 22 "FableIndexModel" "told" "[I", Cond.fieldLink RX3 37 "FableIndexModel" "kept" "[I", Cond.methodLink RX3 98 arraycopyName, Cond.native arraycopyName, Cond.static arraycopyName, Cond.initialized "java/lang/System"]
def wsX3_bestPass_r2 : List Cond := [Cond.methodLink RX3 107 yX3_seasonOn, Cond.instanceMethod yX3_seasonOn, Cond.selects RX3 yX3_seasonOn yX3_seasonOn, Cond.code yX3_seasonOn cX3_seasonOn 6 (some .int), Cond.fieldLink RX3 44 "FableIndexModel" "fables" "I", Cond.fieldLink RX3 34 "FableIndexModel" "next" "[I", Cond.methodLink RX3 51 yX3_has, Cond.static yX3_has, Cond.code yX3_has cX3_has 2 (some .boolean), Cond.methodLink RX3 88 yX3_banned, Cond.instanceMethod yX3_banned, Cond.selects RX3 yX3_banned yX3_banned, Cond.code yX3_banned cX3_banned 3 (some .boolean), Cond.fieldLink RX3 25 "FableIndexModel" "morals" "[I", Cond.fieldLink RX3 9 "FableIndexModel" "moral" "[I", Cond.fieldLink RX3 28 "FableIndexModel" "bans" "[I", Cond.fieldLink RX3 13 "FableIndexModel" "beasts" "[I", Cond.methodLink RX3 94 yX3_comes, Cond.instanceMethod yX3_comes, Cond.selects RX3 yX3_comes yX3_comes, Cond.code yX3_comes cX3_comes 4 (some .int), Cond.fieldLink RX3 19 "FableIndexModel" "parent" "[I", Cond.methodLink RX3 114 yX3_all, Cond.instanceMethod yX3_all]
def wsX3_bestPass_r3 : List Cond := [Cond.selects RX3 yX3_all yX3_all, Cond.code yX3_all cX3_all 6 (some .int), Cond.methodLink RX3 79 yX3_many, Cond.static yX3_many, Cond.code yX3_many cX3_many 3 (some .int), Cond.methodLink RX3 136 yX3_bringBack, Cond.instanceMethod yX3_bringBack, Cond.selects RX3 yX3_bringBack yX3_bringBack, Cond.code yX3_bringBack cX3_bringBack 1 none]
def wsX3_bestPass : List Cond := .code yX3_bestPass cX3_bestPass 7 (some .int) :: ((wsX3_bestPass_r1 ++ (wsX3_bestPass_r2 ++ wsX3_bestPass_r3)) ++ wsX30)
def wsX3_meanBeasts : List Cond := .code yX3_meanBeasts cX3_meanBeasts 3 (some .double) :: ([.fieldLink RX3 40 "FableIndexModel" "thrown" "I", .fieldLink RX3 44 "FableIndexModel" "fables" "I", .fieldLink RX3 13 "FableIndexModel" "beasts" "[I", .methodLink RX3 79 yX3_many, .static yX3_many, .initialized RX3, .code yX3_many cX3_many 3 (some .int)] ++ wsX30)
def wsX3_one : List Cond := .code yX3_one cX3_one 1 (some .int) :: ([])
def wsX3_digest_r1 : List Cond := [Cond.fieldLink RX3 40 "FableIndexModel" "thrown" "I", Cond.arrayClass .int, Cond.fieldLink RX3 44 "FableIndexModel" "fables" "I", Cond.fieldLink RX3 111 "FableIndexModel" "season" "I", Cond.fieldLink RX3 104 "FableIndexModel" "silenced" "I", Cond.constantLong RX3 142 (1861), Cond.constantLong RX3 144 (31), Cond.fieldLink RX3 9 "FableIndexModel" "moral" "[I", Cond.fieldLink RX3 13 "FableIndexModel" "beasts" "[I", Cond.fieldLink RX3 16 "FableIndexModel" "home" "[I", Cond.fieldLink RX3 19 "FableIndexModel" "parent" "[I", Cond.fieldLink RX3 22 "FableIndexModel" "told" "[I", Cond.fieldLink RX3 31 "FableIndexModel" "passes" "[I", Cond.methodLink RX3 114 yX3_all, Cond.instanceMethod yX3_all, Cond.selects RX3 yX3_all yX3_all, Cond.initialized RX3, Cond.code yX3_all cX3_all 6 (some .int), Cond.methodLink RX3 79 yX3_many, Cond.static yX3_many, Cond.code yX3_many cX3_many 3 (some .int), Cond.methodLink RX3 129 yX3_favourite, Cond.instanceMethod yX3_favourite, Cond.selects RX3 yX3_favourite yX3_favourite]
def wsX3_digest_r2 : List Cond := [Cond.code yX3_favourite cX3_favourite 7 (some .int), Cond.methodLink RX3 51 yX3_has, Cond.static yX3_has, Cond.code yX3_has cX3_has 2 (some .boolean), Cond.methodLink RX3 91 yX3_placesOf, Cond.instanceMethod yX3_placesOf, Cond.selects RX3 yX3_placesOf yX3_placesOf, Cond.code yX3_placesOf cX3_placesOf 4 (some .int), Cond.methodLink RX3 76 yX3_children, Cond.instanceMethod yX3_children, Cond.selects RX3 yX3_children yX3_children, Cond.code yX3_children cX3_children 4 (some .int), Cond.methodLink RX3 146 yX3_one, Cond.static yX3_one, Cond.code yX3_one cX3_one 1 (some .int), Cond.methodLink RX3 88 yX3_banned, Cond.instanceMethod yX3_banned, Cond.selects RX3 yX3_banned yX3_banned, Cond.code yX3_banned cX3_banned 3 (some .boolean), Cond.fieldLink RX3 25 "FableIndexModel" "morals" "[I", Cond.fieldLink RX3 28 "FableIndexModel" "bans" "[I", Cond.methodLink RX3 123 yX3_allowed, Cond.instanceMethod yX3_allowed, Cond.selects RX3 yX3_allowed yX3_allowed]
def wsX3_digest_r3 : List Cond := [Cond.code yX3_allowed cX3_allowed 4 (some .int), Cond.methodLink RX3 126 yX3_bansIn, Cond.instanceMethod yX3_bansIn, Cond.selects RX3 yX3_bansIn yX3_bansIn, Cond.code yX3_bansIn cX3_bansIn 2 (some .int)]
def wsX3_digest : List Cond := .code yX3_digest cX3_digest 10 (some .long) :: ((wsX3_digest_r1 ++ (wsX3_digest_r2 ++ wsX3_digest_r3)) ++ wsX30)
def wsL_addFable_r1 : List Cond := [Cond.classLink RL 13 "java/lang/IndexOutOfBoundsException", Cond.classLink RL 15 "java/lang/IllegalStateException", Cond.methodLink RL 7 yX2_addFable, Cond.instanceMethod yX2_addFable, Cond.selects RX2 yX2_addFable yX2_addFable, Cond.initialized RX2, Cond.code yX2_addFable cX2_addFable 4 (some .int), Cond.fieldLink RX2 10 "FableIndex" "book" "LFableIndex$Book;", Cond.methodLink RX2 30 yX2_needMoral, Cond.static yX2_needMoral, Cond.code yX2_needMoral cX2_needMoral 1 none, Cond.classLink RX2 238 "java/lang/IndexOutOfBoundsException", Cond.initialized "java/lang/IndexOutOfBoundsException", Cond.methodLink RX2 34 yX2_needBeast, Cond.static yX2_needBeast, Cond.code yX2_needBeast cX2_needBeast 1 none, Cond.methodLink RX2 37 yX2_needValley, Cond.static yX2_needValley, Cond.code yX2_needValley cX2_needValley 1 none, Cond.methodLink RX2 40 yX2_needFreePage, Cond.instanceMethod yX2_needFreePage, Cond.selects RX2 yX2_needFreePage yX2_needFreePage, Cond.code yX2_needFreePage cX2_needFreePage 1 none, Cond.classLink RX2 58 "java/lang/IllegalStateException"]
def wsL_addFable_r2 : List Cond := [Cond.initialized "java/lang/IllegalStateException", Cond.fieldLink RX2 146 "FableIndex$Book" "count" "I", Cond.methodLink RX2 43 yX0_write, Cond.instanceMethod yX0_write, Cond.selects RX0 yX0_write yX0_write, Cond.initialized RX0, Cond.code yX0_write cX0_write 6 (some .int), Cond.fieldLink RX0 9 "FableIndex$Book" "count" "I", Cond.fieldLink RX0 15 "FableIndex$Book" "moral" "[I", Cond.fieldLink RX0 19 "FableIndex$Book" "beasts" "[I", Cond.fieldLink RX0 22 "FableIndex$Book" "home" "[I", Cond.fieldLink RX0 25 "FableIndex$Book" "parent" "[I", Cond.fieldLink RX0 28 "FableIndex$Book" "variants" "[I", Cond.fieldLink RX0 31 "FableIndex$Book" "ancestors" "[I"]
def wsL_addFable : List Cond := .codeWith yL_addFable cL_addFable 6 (some .int) [(0, 12, 15, 13), (0, 12, 19, 15)] :: ((wsL_addFable_r1 ++ wsL_addFable_r2) ++ wsX20 ++ wsX00 ++ (vx_atS RX2 242 "java/lang/IndexOutOfBoundsException" ["java/lang/RuntimeException", "java/lang/Exception"]).filter goodWord ++ (vx_atS RX2 62 "java/lang/IllegalStateException" ["java/lang/RuntimeException", "java/lang/Exception"]).filter goodWord)
def wsL_addBeast_r1 : List Cond := [Cond.classLink RL 13 "java/lang/IndexOutOfBoundsException", Cond.classLink RL 15 "java/lang/IllegalStateException", Cond.methodLink RL 17 yX2_addBeast, Cond.instanceMethod yX2_addBeast, Cond.selects RX2 yX2_addBeast yX2_addBeast, Cond.initialized RX2, Cond.code yX2_addBeast cX2_addBeast 3 (some .int), Cond.classLink RX2 58 "java/lang/IllegalStateException", Cond.initialized "java/lang/IllegalStateException", Cond.fieldLink RX2 10 "FableIndex" "book" "LFableIndex$Book;", Cond.fieldLink RX2 50 "FableIndex$Book" "beasts" "[I", Cond.fieldLink RX2 65 "FableIndex$Book" "variants" "[I", Cond.methodLink RX2 47 yX2_needFable, Cond.instanceMethod yX2_needFable, Cond.selects RX2 yX2_needFable yX2_needFable, Cond.code yX2_needFable cX2_needFable 2 none, Cond.classLink RX2 238 "java/lang/IndexOutOfBoundsException", Cond.initialized "java/lang/IndexOutOfBoundsException", Cond.fieldLink RX2 146 "FableIndex$Book" "count" "I", Cond.methodLink RX2 34 yX2_needBeast, Cond.static yX2_needBeast, Cond.code yX2_needBeast cX2_needBeast 1 none, Cond.methodLink RX2 54 yX2_has, Cond.static yX2_has]
def wsL_addBeast_r2 : List Cond := [Cond.code yX2_has cX2_has 2 (some .boolean), Cond.methodLink RX2 70 yX2_size, Cond.static yX2_size, Cond.code yX2_size cX2_size 1 (some .int), Cond.methodLink RX2 253 yJ6_bitCount_0f7a4, Cond.static yJ6_bitCount_0f7a4, Cond.initialized RJ6, Cond.code yJ6_bitCount_0f7a4 cJ6_bitCount_0f7a4 1 (some .int), Cond.constant RJ6 265 (1431655765), Cond.constant RJ6 266 (858993459), Cond.constant RJ6 267 (252645135)]
def wsL_addBeast : List Cond := .codeWith yL_addBeast cL_addBeast 5 (some .int) [(0, 10, 13, 13), (0, 10, 17, 15)] :: ((wsL_addBeast_r1 ++ wsL_addBeast_r2) ++ wsX20 ++ wsX00 ++ (vx_atS RX2 62 "java/lang/IllegalStateException" ["java/lang/RuntimeException", "java/lang/Exception"]).filter goodWord ++ (vx_atS RX2 242 "java/lang/IndexOutOfBoundsException" ["java/lang/RuntimeException", "java/lang/Exception"]).filter goodWord)
def wsL_addVariant_r1 : List Cond := [Cond.classLink RL 13 "java/lang/IndexOutOfBoundsException", Cond.classLink RL 15 "java/lang/IllegalStateException", Cond.methodLink RL 21 yX2_addVariant, Cond.instanceMethod yX2_addVariant, Cond.selects RX2 yX2_addVariant yX2_addVariant, Cond.initialized RX2, Cond.code yX2_addVariant cX2_addVariant 6 (some .int), Cond.classLink RX2 58 "java/lang/IllegalStateException", Cond.initialized "java/lang/IllegalStateException", Cond.fieldLink RX2 10 "FableIndex" "book" "LFableIndex$Book;", Cond.fieldLink RX2 50 "FableIndex$Book" "beasts" "[I", Cond.fieldLink RX2 78 "FableIndex$Book" "moral" "[I", Cond.methodLink RX2 47 yX2_needFable, Cond.instanceMethod yX2_needFable, Cond.selects RX2 yX2_needFable yX2_needFable, Cond.code yX2_needFable cX2_needFable 2 none, Cond.classLink RX2 238 "java/lang/IndexOutOfBoundsException", Cond.initialized "java/lang/IndexOutOfBoundsException", Cond.fieldLink RX2 146 "FableIndex$Book" "count" "I", Cond.methodLink RX2 34 yX2_needBeast, Cond.static yX2_needBeast, Cond.code yX2_needBeast cX2_needBeast 1 none, Cond.methodLink RX2 37 yX2_needValley, Cond.static yX2_needValley]
def wsL_addVariant_r2 : List Cond := [Cond.code yX2_needValley cX2_needValley 1 none, Cond.methodLink RX2 40 yX2_needFreePage, Cond.instanceMethod yX2_needFreePage, Cond.selects RX2 yX2_needFreePage yX2_needFreePage, Cond.code yX2_needFreePage cX2_needFreePage 1 none, Cond.methodLink RX2 54 yX2_has, Cond.static yX2_has, Cond.code yX2_has cX2_has 2 (some .boolean), Cond.methodLink RX2 81 yX2_turned, Cond.static yX2_turned, Cond.code yX2_turned cX2_turned 2 (some .int), Cond.methodLink RX2 43 yX0_write, Cond.instanceMethod yX0_write, Cond.selects RX0 yX0_write yX0_write, Cond.initialized RX0, Cond.code yX0_write cX0_write 6 (some .int), Cond.fieldLink RX0 9 "FableIndex$Book" "count" "I", Cond.fieldLink RX0 15 "FableIndex$Book" "moral" "[I", Cond.fieldLink RX0 19 "FableIndex$Book" "beasts" "[I", Cond.fieldLink RX0 22 "FableIndex$Book" "home" "[I", Cond.fieldLink RX0 25 "FableIndex$Book" "parent" "[I", Cond.fieldLink RX0 28 "FableIndex$Book" "variants" "[I", Cond.fieldLink RX0 31 "FableIndex$Book" "ancestors" "[I"]
def wsL_addVariant : List Cond := .codeWith yL_addVariant cL_addVariant 7 (some .int) [(0, 14, 17, 13), (0, 14, 21, 15)] :: ((wsL_addVariant_r1 ++ wsL_addVariant_r2) ++ wsX20 ++ wsX00 ++ (vx_atS RX2 62 "java/lang/IllegalStateException" ["java/lang/RuntimeException", "java/lang/Exception"]).filter goodWord ++ (vx_atS RX2 242 "java/lang/IndexOutOfBoundsException" ["java/lang/RuntimeException", "java/lang/Exception"]).filter goodWord)
def wsL_turnPass_r1 : List Cond := [Cond.classLink RL 13 "java/lang/IndexOutOfBoundsException", Cond.classLink RL 29 "java/lang/IllegalArgumentException", Cond.methodLink RL 25 yX2_turnPass, Cond.instanceMethod yX2_turnPass, Cond.selects RX2 yX2_turnPass yX2_turnPass, Cond.initialized RX2, Cond.code yX2_turnPass cX2_turnPass 3 (some .boolean), Cond.classLink RX2 85 "java/lang/IllegalArgumentException", Cond.initialized "java/lang/IllegalArgumentException", Cond.fieldLink RX2 19 "FableIndex" "land" "LFableIndex$Land;", Cond.fieldLink RX2 94 "FableIndex$Land" "ways" "[I", Cond.methodLink RX2 37 yX2_needValley, Cond.static yX2_needValley, Cond.code yX2_needValley cX2_needValley 1 none, Cond.classLink RX2 238 "java/lang/IndexOutOfBoundsException", Cond.initialized "java/lang/IndexOutOfBoundsException", Cond.methodLink RX2 90 yX1_turnWay, Cond.instanceMethod yX1_turnWay, Cond.selects RX1 yX1_turnWay yX1_turnWay, Cond.initialized RX1, Cond.code yX1_turnWay cX1_turnWay 3 none, Cond.fieldLink RX1 9 "FableIndex$Land" "ways" "[I", Cond.static yX2_turned, Cond.code yX2_turned cX2_turned 2 (some .int)]
def wsL_turnPass_r2 : List Cond := [Cond.methodLink RX2 54 yX2_has, Cond.static yX2_has, Cond.code yX2_has cX2_has 2 (some .boolean)]
def wsL_turnPass : List Cond := .codeWith yL_turnPass cL_turnPass 5 (some .int) [(0, 17, 20, 13), (0, 17, 24, 29)] :: ((wsL_turnPass_r1 ++ wsL_turnPass_r2) ++ wsX20 ++ wsX10 ++ (vx_atS RX2 89 "java/lang/IllegalArgumentException" ["java/lang/RuntimeException", "java/lang/Exception"]).filter goodWord ++ (vx_atS RX2 242 "java/lang/IndexOutOfBoundsException" ["java/lang/RuntimeException", "java/lang/Exception"]).filter goodWord)
def wsL_turnMoral : List Cond := .codeWith yL_turnMoral cL_turnMoral 5 (some .int) [(0, 17, 20, 13)] :: ([.classLink RL 13 "java/lang/IndexOutOfBoundsException", .methodLink RL 31 yX2_turnMoral, .instanceMethod yX2_turnMoral, .selects RX2 yX2_turnMoral yX2_turnMoral, .initialized RX2, .code yX2_turnMoral cX2_turnMoral 3 (some .boolean), .fieldLink RX2 19 "FableIndex" "land" "LFableIndex$Land;", .fieldLink RX2 97 "FableIndex$Land" "bannedMorals" "[I", .methodLink RX2 37 yX2_needValley, .static yX2_needValley, .code yX2_needValley cX2_needValley 1 none, .classLink RX2 238 "java/lang/IndexOutOfBoundsException", .initialized "java/lang/IndexOutOfBoundsException", .methodLink RX2 30 yX2_needMoral, .static yX2_needMoral, .code yX2_needMoral cX2_needMoral 1 none, .methodLink RX2 81 yX2_turned, .static yX2_turned, .code yX2_turned cX2_turned 2 (some .int), .methodLink RX2 54 yX2_has, .static yX2_has, .code yX2_has cX2_has 2 (some .boolean)] ++ wsX20 ++ wsX10 ++ (vx_atS RX2 242 "java/lang/IndexOutOfBoundsException" ["java/lang/RuntimeException", "java/lang/Exception"]).filter goodWord)
def wsL_turnBeast : List Cond := .codeWith yL_turnBeast cL_turnBeast 5 (some .int) [(0, 17, 20, 13)] :: ([.classLink RL 13 "java/lang/IndexOutOfBoundsException", .methodLink RL 34 yX2_turnBeast, .instanceMethod yX2_turnBeast, .selects RX2 yX2_turnBeast yX2_turnBeast, .initialized RX2, .code yX2_turnBeast cX2_turnBeast 3 (some .boolean), .fieldLink RX2 19 "FableIndex" "land" "LFableIndex$Land;", .fieldLink RX2 100 "FableIndex$Land" "bannedBeasts" "[I", .methodLink RX2 37 yX2_needValley, .static yX2_needValley, .code yX2_needValley cX2_needValley 1 none, .classLink RX2 238 "java/lang/IndexOutOfBoundsException", .initialized "java/lang/IndexOutOfBoundsException", .methodLink RX2 34 yX2_needBeast, .static yX2_needBeast, .code yX2_needBeast cX2_needBeast 1 none, .methodLink RX2 81 yX2_turned, .static yX2_turned, .code yX2_turned cX2_turned 2 (some .int), .methodLink RX2 54 yX2_has, .static yX2_has, .code yX2_has cX2_has 2 (some .boolean)] ++ wsX20 ++ wsX10 ++ (vx_atS RX2 242 "java/lang/IndexOutOfBoundsException" ["java/lang/RuntimeException", "java/lang/Exception"]).filter goodWord)
def wsL_tell_r1 : List Cond := [Cond.classLink RL 13 "java/lang/IndexOutOfBoundsException", Cond.classLink RL 15 "java/lang/IllegalStateException", Cond.methodLink RL 37 yX2_tell, Cond.instanceMethod yX2_tell, Cond.selects RX2 yX2_tell yX2_tell, Cond.initialized RX2, Cond.code yX2_tell cX2_tell 3 (some .int), Cond.classLink RX2 58 "java/lang/IllegalStateException", Cond.initialized "java/lang/IllegalStateException", Cond.fieldLink RX2 19 "FableIndex" "land" "LFableIndex$Land;", Cond.fieldLink RX2 103 "FableIndex$Land" "told" "[I", Cond.fieldLink RX2 10 "FableIndex" "book" "LFableIndex$Book;", Cond.methodLink RX2 47 yX2_needFable, Cond.instanceMethod yX2_needFable, Cond.selects RX2 yX2_needFable yX2_needFable, Cond.code yX2_needFable cX2_needFable 2 none, Cond.classLink RX2 238 "java/lang/IndexOutOfBoundsException", Cond.initialized "java/lang/IndexOutOfBoundsException", Cond.fieldLink RX2 146 "FableIndex$Book" "count" "I", Cond.methodLink RX2 37 yX2_needValley, Cond.static yX2_needValley, Cond.code yX2_needValley cX2_needValley 1 none, Cond.methodLink RX2 54 yX2_has, Cond.static yX2_has]
def wsL_tell_r2 : List Cond := [Cond.code yX2_has cX2_has 2 (some .boolean), Cond.methodLink RX2 108 yX1_bans, Cond.instanceMethod yX1_bans, Cond.selects RX1 yX1_bans yX1_bans, Cond.initialized RX1, Cond.code yX1_bans cX1_bans 4 (some .boolean), Cond.fieldLink RX1 15 "FableIndex$Land" "bannedMorals" "[I", Cond.fieldLink RX1 38 "FableIndex$Book" "moral" "[I", Cond.fieldLink RX1 18 "FableIndex$Land" "bannedBeasts" "[I", Cond.fieldLink RX1 47 "FableIndex$Book" "beasts" "[I", Cond.methodLink RX2 114 yX1_count, Cond.instanceMethod yX1_count, Cond.selects RX1 yX1_count yX1_count, Cond.code yX1_count cX1_count 4 (some .int), Cond.fieldLink RX1 21 "FableIndex$Land" "told" "[I", Cond.static yX2_size, Cond.code yX2_size cX2_size 1 (some .int), Cond.methodLink RX2 253 yJ6_bitCount_0f7a4, Cond.static yJ6_bitCount_0f7a4, Cond.initialized RJ6, Cond.code yJ6_bitCount_0f7a4 cJ6_bitCount_0f7a4 1 (some .int), Cond.constant RJ6 265 (1431655765), Cond.constant RJ6 266 (858993459), Cond.constant RJ6 267 (252645135)]
def wsL_tell : List Cond := .codeWith yL_tell cL_tell 5 (some .int) [(0, 10, 13, 13), (0, 10, 17, 15)] :: ((wsL_tell_r1 ++ wsL_tell_r2) ++ wsX20 ++ wsX10 ++ wsX00 ++ (vx_atS RX2 62 "java/lang/IllegalStateException" ["java/lang/RuntimeException", "java/lang/Exception"]).filter goodWord ++ (vx_atS RX2 242 "java/lang/IndexOutOfBoundsException" ["java/lang/RuntimeException", "java/lang/Exception"]).filter goodWord)
def wsL_forget_r1 : List Cond := [Cond.classLink RL 13 "java/lang/IndexOutOfBoundsException", Cond.classLink RL 15 "java/lang/IllegalStateException", Cond.methodLink RL 40 yX2_forget, Cond.instanceMethod yX2_forget, Cond.selects RX2 yX2_forget yX2_forget, Cond.initialized RX2, Cond.code yX2_forget cX2_forget 3 (some .int), Cond.classLink RX2 58 "java/lang/IllegalStateException", Cond.initialized "java/lang/IllegalStateException", Cond.fieldLink RX2 19 "FableIndex" "land" "LFableIndex$Land;", Cond.fieldLink RX2 103 "FableIndex$Land" "told" "[I", Cond.methodLink RX2 47 yX2_needFable, Cond.instanceMethod yX2_needFable, Cond.selects RX2 yX2_needFable yX2_needFable, Cond.code yX2_needFable cX2_needFable 2 none, Cond.classLink RX2 238 "java/lang/IndexOutOfBoundsException", Cond.initialized "java/lang/IndexOutOfBoundsException", Cond.fieldLink RX2 10 "FableIndex" "book" "LFableIndex$Book;", Cond.fieldLink RX2 146 "FableIndex$Book" "count" "I", Cond.methodLink RX2 37 yX2_needValley, Cond.static yX2_needValley, Cond.code yX2_needValley cX2_needValley 1 none, Cond.methodLink RX2 54 yX2_has, Cond.static yX2_has]
def wsL_forget_r2 : List Cond := [Cond.code yX2_has cX2_has 2 (some .boolean), Cond.methodLink RX2 81 yX2_turned, Cond.static yX2_turned, Cond.code yX2_turned cX2_turned 2 (some .int), Cond.methodLink RX2 114 yX1_count, Cond.instanceMethod yX1_count, Cond.selects RX1 yX1_count yX1_count, Cond.initialized RX1, Cond.code yX1_count cX1_count 4 (some .int), Cond.fieldLink RX1 21 "FableIndex$Land" "told" "[I", Cond.static yX2_size, Cond.code yX2_size cX2_size 1 (some .int), Cond.methodLink RX2 253 yJ6_bitCount_0f7a4, Cond.static yJ6_bitCount_0f7a4, Cond.initialized RJ6, Cond.code yJ6_bitCount_0f7a4 cJ6_bitCount_0f7a4 1 (some .int), Cond.constant RJ6 265 (1431655765), Cond.constant RJ6 266 (858993459), Cond.constant RJ6 267 (252645135)]
def wsL_forget : List Cond := .codeWith yL_forget cL_forget 5 (some .int) [(0, 10, 13, 13), (0, 10, 17, 15)] :: ((wsL_forget_r1 ++ wsL_forget_r2) ++ wsX20 ++ wsX10 ++ wsX00 ++ (vx_atS RX2 62 "java/lang/IllegalStateException" ["java/lang/RuntimeException", "java/lang/Exception"]).filter goodWord ++ (vx_atS RX2 242 "java/lang/IndexOutOfBoundsException" ["java/lang/RuntimeException", "java/lang/Exception"]).filter goodWord)
def wsL_passSeasons_r1 : List Cond := [Cond.classLink RL 29 "java/lang/IllegalArgumentException", Cond.methodLink RL 43 yX2_passSeasons, Cond.instanceMethod yX2_passSeasons, Cond.selects RX2 yX2_passSeasons yX2_passSeasons, Cond.initialized RX2, Cond.code yX2_passSeasons cX2_passSeasons 2 (some .int), Cond.fieldLink RX2 19 "FableIndex" "land" "LFableIndex$Land;", Cond.fieldLink RX2 10 "FableIndex" "book" "LFableIndex$Book;", Cond.fieldLink RX2 26 "FableIndex" "season" "I", Cond.methodLink RX2 119 yX2_needSeasons, Cond.static yX2_needSeasons, Cond.code yX2_needSeasons cX2_needSeasons 2 none, Cond.classLink RX2 85 "java/lang/IllegalArgumentException", Cond.initialized "java/lang/IllegalArgumentException", Cond.methodLink RX2 122 yX1_live, Cond.instanceMethod yX1_live, Cond.selects RX1 yX1_live yX1_live, Cond.initialized RX1, Cond.code yX1_live cX1_live 5 none, Cond.fieldLink RX1 24 "FableIndex$Land" "allowed" "[I", Cond.methodLink RX1 61 yX1_welcome, Cond.instanceMethod yX1_welcome, Cond.selects RX1 yX1_welcome yX1_welcome, Cond.code yX1_welcome cX1_welcome 5 (some .int)]
def wsL_passSeasons_r2 : List Cond := [Cond.fieldLink RX1 50 "FableIndex$Book" "count" "I", Cond.methodLink RX1 53 yX1_bans, Cond.instanceMethod yX1_bans, Cond.selects RX1 yX1_bans yX1_bans, Cond.code yX1_bans cX1_bans 4 (some .boolean), Cond.fieldLink RX1 15 "FableIndex$Land" "bannedMorals" "[I", Cond.fieldLink RX1 38 "FableIndex$Book" "moral" "[I", Cond.fieldLink RX1 18 "FableIndex$Land" "bannedBeasts" "[I", Cond.fieldLink RX1 47 "FableIndex$Book" "beasts" "[I", Cond.static yX2_has, Cond.code yX2_has cX2_has 2 (some .boolean), Cond.methodLink RX1 65 yX1_hush, Cond.instanceMethod yX1_hush, Cond.selects RX1 yX1_hush yX1_hush, Cond.code yX1_hush cX1_hush 2 none, Cond.fieldLink RX1 27 "FableIndex$Land" "kept" "[I", Cond.fieldLink RX1 21 "FableIndex$Land" "told" "[I", Cond.fieldLink RX1 30 "FableIndex$Land" "hushed" "I", Cond.static yX2_size, Cond.code yX2_size cX2_size 1 (some .int), Cond.methodLink RX2 253 yJ6_bitCount_0f7a4, Cond.static yJ6_bitCount_0f7a4, Cond.initialized RJ6, Cond.code yJ6_bitCount_0f7a4 cJ6_bitCount_0f7a4 1 (some .int)]
def wsL_passSeasons_r3 : List Cond := [Cond.constant RJ6 265 (1431655765), Cond.constant RJ6 266 (858993459), Cond.constant RJ6 267 (252645135), Cond.methodLink RX1 68 yX1_spread, Cond.instanceMethod yX1_spread, Cond.selects RX1 yX1_spread yX1_spread, Cond.code yX1_spread cX1_spread 5 (some .boolean), Cond.methodLink RX1 72 yX1_arriving, Cond.instanceMethod yX1_arriving, Cond.selects RX1 yX1_arriving yX1_arriving, Cond.code yX1_arriving cX1_arriving 4 (some .int), Cond.fieldLink RX1 9 "FableIndex$Land" "ways" "[I", Cond.methodLink RX1 75 yX1_admitted, Cond.instanceMethod yX1_admitted, Cond.selects RX1 yX1_admitted yX1_admitted, Cond.code yX1_admitted cX1_admitted 7 (some .int), Cond.fieldLink RX1 79 "FableIndex$Book" "variants" "[I", Cond.static yX2_smallestAlone, Cond.code yX2_smallestAlone cX2_smallestAlone 1 (some .int), Cond.methodLink RX2 126 yX0_all, Cond.instanceMethod yX0_all, Cond.selects RX0 yX0_all yX0_all, Cond.initialized RX0, Cond.code yX0_all cX0_all 1 (some .int)]
def wsL_passSeasons_r4 : List Cond := [Cond.fieldLink RX0 9 "FableIndex$Book" "count" "I", Cond.methodLink RX2 114 yX1_count, Cond.instanceMethod yX1_count, Cond.selects RX1 yX1_count yX1_count, Cond.code yX1_count cX1_count 4 (some .int)]
def wsL_passSeasons : List Cond := .codeWith yL_passSeasons cL_passSeasons 4 (some .int) [(0, 9, 12, 29)] :: ((wsL_passSeasons_r1 ++ (wsL_passSeasons_r2 ++ (wsL_passSeasons_r3 ++ wsL_passSeasons_r4))) ++ wsX20 ++ wsX10 ++ wsX00 ++ (vx_atS RX2 89 "java/lang/IllegalArgumentException" ["java/lang/RuntimeException", "java/lang/Exception"]).filter goodWord)
def wsL_moralOf : List Cond := .codeWith yL_moralOf cL_moralOf 4 (some .int) [(0, 9, 12, 13)] :: ([.classLink RL 13 "java/lang/IndexOutOfBoundsException", .methodLink RL 47 yX2_moralOf, .instanceMethod yX2_moralOf, .selects RX2 yX2_moralOf yX2_moralOf, .initialized RX2, .code yX2_moralOf cX2_moralOf 2 (some .int), .fieldLink RX2 10 "FableIndex" "book" "LFableIndex$Book;", .fieldLink RX2 78 "FableIndex$Book" "moral" "[I", .methodLink RX2 47 yX2_needFable, .instanceMethod yX2_needFable, .selects RX2 yX2_needFable yX2_needFable, .code yX2_needFable cX2_needFable 2 none, .classLink RX2 238 "java/lang/IndexOutOfBoundsException", .initialized "java/lang/IndexOutOfBoundsException", .fieldLink RX2 146 "FableIndex$Book" "count" "I"] ++ wsX20 ++ wsX00 ++ (vx_atS RX2 242 "java/lang/IndexOutOfBoundsException" ["java/lang/RuntimeException", "java/lang/Exception"]).filter goodWord)
def wsL_beastsOf_r1 : List Cond := [Cond.classLink RL 13 "java/lang/IndexOutOfBoundsException", Cond.methodLink RL 50 yX2_beastsOf, Cond.instanceMethod yX2_beastsOf, Cond.selects RX2 yX2_beastsOf yX2_beastsOf, Cond.initialized RX2, Cond.code yX2_beastsOf cX2_beastsOf 2 (some .int), Cond.fieldLink RX2 10 "FableIndex" "book" "LFableIndex$Book;", Cond.fieldLink RX2 50 "FableIndex$Book" "beasts" "[I", Cond.methodLink RX2 47 yX2_needFable, Cond.instanceMethod yX2_needFable, Cond.selects RX2 yX2_needFable yX2_needFable, Cond.code yX2_needFable cX2_needFable 2 none, Cond.classLink RX2 238 "java/lang/IndexOutOfBoundsException", Cond.initialized "java/lang/IndexOutOfBoundsException", Cond.fieldLink RX2 146 "FableIndex$Book" "count" "I", Cond.methodLink RX2 70 yX2_size, Cond.static yX2_size, Cond.code yX2_size cX2_size 1 (some .int), Cond.methodLink RX2 253 yJ6_bitCount_0f7a4, Cond.static yJ6_bitCount_0f7a4, Cond.initialized RJ6, Cond.code yJ6_bitCount_0f7a4 cJ6_bitCount_0f7a4 1 (some .int), Cond.constant RJ6 265 (1431655765), Cond.constant RJ6 266 (858993459)]
def wsL_beastsOf_r2 : List Cond := [Cond.constant RJ6 267 (252645135)]
def wsL_beastsOf : List Cond := .codeWith yL_beastsOf cL_beastsOf 4 (some .int) [(0, 9, 12, 13)] :: ((wsL_beastsOf_r1 ++ wsL_beastsOf_r2) ++ wsX20 ++ wsX00 ++ (vx_atS RX2 242 "java/lang/IndexOutOfBoundsException" ["java/lang/RuntimeException", "java/lang/Exception"]).filter goodWord)
def wsL_hasBeast : List Cond := .codeWith yL_hasBeast cL_hasBeast 5 (some .int) [(0, 17, 20, 13)] :: ([.classLink RL 13 "java/lang/IndexOutOfBoundsException", .methodLink RL 53 yX2_hasBeast, .instanceMethod yX2_hasBeast, .selects RX2 yX2_hasBeast yX2_hasBeast, .initialized RX2, .code yX2_hasBeast cX2_hasBeast 3 (some .boolean), .fieldLink RX2 10 "FableIndex" "book" "LFableIndex$Book;", .fieldLink RX2 50 "FableIndex$Book" "beasts" "[I", .methodLink RX2 47 yX2_needFable, .instanceMethod yX2_needFable, .selects RX2 yX2_needFable yX2_needFable, .code yX2_needFable cX2_needFable 2 none, .classLink RX2 238 "java/lang/IndexOutOfBoundsException", .initialized "java/lang/IndexOutOfBoundsException", .fieldLink RX2 146 "FableIndex$Book" "count" "I", .methodLink RX2 34 yX2_needBeast, .static yX2_needBeast, .code yX2_needBeast cX2_needBeast 1 none, .methodLink RX2 54 yX2_has, .static yX2_has, .code yX2_has cX2_has 2 (some .boolean)] ++ wsX20 ++ wsX00 ++ (vx_atS RX2 242 "java/lang/IndexOutOfBoundsException" ["java/lang/RuntimeException", "java/lang/Exception"]).filter goodWord)
def wsL_homeOf : List Cond := .codeWith yL_homeOf cL_homeOf 4 (some .int) [(0, 9, 12, 13)] :: ([.classLink RL 13 "java/lang/IndexOutOfBoundsException", .methodLink RL 56 yX2_homeOf, .instanceMethod yX2_homeOf, .selects RX2 yX2_homeOf yX2_homeOf, .initialized RX2, .code yX2_homeOf cX2_homeOf 2 (some .int), .fieldLink RX2 10 "FableIndex" "book" "LFableIndex$Book;", .fieldLink RX2 130 "FableIndex$Book" "home" "[I", .methodLink RX2 47 yX2_needFable, .instanceMethod yX2_needFable, .selects RX2 yX2_needFable yX2_needFable, .code yX2_needFable cX2_needFable 2 none, .classLink RX2 238 "java/lang/IndexOutOfBoundsException", .initialized "java/lang/IndexOutOfBoundsException", .fieldLink RX2 146 "FableIndex$Book" "count" "I"] ++ wsX20 ++ wsX00 ++ (vx_atS RX2 242 "java/lang/IndexOutOfBoundsException" ["java/lang/RuntimeException", "java/lang/Exception"]).filter goodWord)
def wsL_parentOf : List Cond := .codeWith yL_parentOf cL_parentOf 4 (some .int) [(0, 9, 12, 13)] :: ([.classLink RL 13 "java/lang/IndexOutOfBoundsException", .methodLink RL 59 yX2_parentOf, .instanceMethod yX2_parentOf, .selects RX2 yX2_parentOf yX2_parentOf, .initialized RX2, .code yX2_parentOf cX2_parentOf 2 (some .int), .fieldLink RX2 10 "FableIndex" "book" "LFableIndex$Book;", .fieldLink RX2 133 "FableIndex$Book" "parent" "[I", .methodLink RX2 47 yX2_needFable, .instanceMethod yX2_needFable, .selects RX2 yX2_needFable yX2_needFable, .code yX2_needFable cX2_needFable 2 none, .classLink RX2 238 "java/lang/IndexOutOfBoundsException", .initialized "java/lang/IndexOutOfBoundsException", .fieldLink RX2 146 "FableIndex$Book" "count" "I"] ++ wsX20 ++ wsX00 ++ (vx_atS RX2 242 "java/lang/IndexOutOfBoundsException" ["java/lang/RuntimeException", "java/lang/Exception"]).filter goodWord)
def wsL_variantsOf_r1 : List Cond := [Cond.classLink RL 13 "java/lang/IndexOutOfBoundsException", Cond.methodLink RL 62 yX2_variantsOf, Cond.instanceMethod yX2_variantsOf, Cond.selects RX2 yX2_variantsOf yX2_variantsOf, Cond.initialized RX2, Cond.code yX2_variantsOf cX2_variantsOf 2 (some .int), Cond.fieldLink RX2 10 "FableIndex" "book" "LFableIndex$Book;", Cond.fieldLink RX2 65 "FableIndex$Book" "variants" "[I", Cond.methodLink RX2 47 yX2_needFable, Cond.instanceMethod yX2_needFable, Cond.selects RX2 yX2_needFable yX2_needFable, Cond.code yX2_needFable cX2_needFable 2 none, Cond.classLink RX2 238 "java/lang/IndexOutOfBoundsException", Cond.initialized "java/lang/IndexOutOfBoundsException", Cond.fieldLink RX2 146 "FableIndex$Book" "count" "I", Cond.methodLink RX2 70 yX2_size, Cond.static yX2_size, Cond.code yX2_size cX2_size 1 (some .int), Cond.methodLink RX2 253 yJ6_bitCount_0f7a4, Cond.static yJ6_bitCount_0f7a4, Cond.initialized RJ6, Cond.code yJ6_bitCount_0f7a4 cJ6_bitCount_0f7a4 1 (some .int), Cond.constant RJ6 265 (1431655765), Cond.constant RJ6 266 (858993459)]
def wsL_variantsOf_r2 : List Cond := [Cond.constant RJ6 267 (252645135)]
def wsL_variantsOf : List Cond := .codeWith yL_variantsOf cL_variantsOf 4 (some .int) [(0, 9, 12, 13)] :: ((wsL_variantsOf_r1 ++ wsL_variantsOf_r2) ++ wsX20 ++ wsX00 ++ (vx_atS RX2 242 "java/lang/IndexOutOfBoundsException" ["java/lang/RuntimeException", "java/lang/Exception"]).filter goodWord)
def wsL_valleysOf_r1 : List Cond := [Cond.classLink RL 13 "java/lang/IndexOutOfBoundsException", Cond.methodLink RL 65 yX2_valleysOf, Cond.instanceMethod yX2_valleysOf, Cond.selects RX2 yX2_valleysOf yX2_valleysOf, Cond.initialized RX2, Cond.code yX2_valleysOf cX2_valleysOf 2 (some .int), Cond.fieldLink RX2 19 "FableIndex" "land" "LFableIndex$Land;", Cond.methodLink RX2 47 yX2_needFable, Cond.instanceMethod yX2_needFable, Cond.selects RX2 yX2_needFable yX2_needFable, Cond.code yX2_needFable cX2_needFable 2 none, Cond.classLink RX2 238 "java/lang/IndexOutOfBoundsException", Cond.initialized "java/lang/IndexOutOfBoundsException", Cond.fieldLink RX2 10 "FableIndex" "book" "LFableIndex$Book;", Cond.fieldLink RX2 146 "FableIndex$Book" "count" "I", Cond.methodLink RX2 114 yX1_count, Cond.instanceMethod yX1_count, Cond.selects RX1 yX1_count yX1_count, Cond.initialized RX1, Cond.code yX1_count cX1_count 4 (some .int), Cond.fieldLink RX1 21 "FableIndex$Land" "told" "[I", Cond.static yX2_size, Cond.code yX2_size cX2_size 1 (some .int), Cond.methodLink RX2 253 yJ6_bitCount_0f7a4]
def wsL_valleysOf_r2 : List Cond := [Cond.static yJ6_bitCount_0f7a4, Cond.initialized RJ6, Cond.code yJ6_bitCount_0f7a4 cJ6_bitCount_0f7a4 1 (some .int), Cond.constant RJ6 265 (1431655765), Cond.constant RJ6 266 (858993459), Cond.constant RJ6 267 (252645135)]
def wsL_valleysOf : List Cond := .codeWith yL_valleysOf cL_valleysOf 4 (some .int) [(0, 9, 12, 13)] :: ((wsL_valleysOf_r1 ++ wsL_valleysOf_r2) ++ wsX20 ++ wsX00 ++ wsX10 ++ (vx_atS RX2 242 "java/lang/IndexOutOfBoundsException" ["java/lang/RuntimeException", "java/lang/Exception"]).filter goodWord)
def wsL_nearestAncestor : List Cond := .codeWith yL_nearestAncestor cL_nearestAncestor 5 (some .int) [(0, 10, 13, 13)] :: ([.classLink RL 13 "java/lang/IndexOutOfBoundsException", .methodLink RL 68 yX2_nearestAncestor, .instanceMethod yX2_nearestAncestor, .selects RX2 yX2_nearestAncestor yX2_nearestAncestor, .initialized RX2, .code yX2_nearestAncestor cX2_nearestAncestor 3 (some .int), .fieldLink RX2 10 "FableIndex" "book" "LFableIndex$Book;", .fieldLink RX2 136 "FableIndex$Book" "ancestors" "[I", .methodLink RX2 47 yX2_needFable, .instanceMethod yX2_needFable, .selects RX2 yX2_needFable yX2_needFable, .code yX2_needFable cX2_needFable 2 none, .classLink RX2 238 "java/lang/IndexOutOfBoundsException", .initialized "java/lang/IndexOutOfBoundsException", .fieldLink RX2 146 "FableIndex$Book" "count" "I", .methodLink RX2 139 yX2_greatest, .static yX2_greatest, .code yX2_greatest cX2_greatest 2 (some .int), .methodLink RX2 54 yX2_has, .static yX2_has, .code yX2_has cX2_has 2 (some .boolean)] ++ wsX20 ++ wsX00 ++ (vx_atS RX2 242 "java/lang/IndexOutOfBoundsException" ["java/lang/RuntimeException", "java/lang/Exception"]).filter goodWord)
def wsL_kinship_r1 : List Cond := [Cond.classLink RL 13 "java/lang/IndexOutOfBoundsException", Cond.methodLink RL 71 yX2_kinship, Cond.instanceMethod yX2_kinship, Cond.selects RX2 yX2_kinship yX2_kinship, Cond.initialized RX2, Cond.code yX2_kinship cX2_kinship 3 (some .int), Cond.fieldLink RX2 10 "FableIndex" "book" "LFableIndex$Book;", Cond.fieldLink RX2 136 "FableIndex$Book" "ancestors" "[I", Cond.methodLink RX2 47 yX2_needFable, Cond.instanceMethod yX2_needFable, Cond.selects RX2 yX2_needFable yX2_needFable, Cond.code yX2_needFable cX2_needFable 2 none, Cond.classLink RX2 238 "java/lang/IndexOutOfBoundsException", Cond.initialized "java/lang/IndexOutOfBoundsException", Cond.fieldLink RX2 146 "FableIndex$Book" "count" "I", Cond.methodLink RX2 70 yX2_size, Cond.static yX2_size, Cond.code yX2_size cX2_size 1 (some .int), Cond.methodLink RX2 253 yJ6_bitCount_0f7a4, Cond.static yJ6_bitCount_0f7a4, Cond.initialized RJ6, Cond.code yJ6_bitCount_0f7a4 cJ6_bitCount_0f7a4 1 (some .int), Cond.constant RJ6 265 (1431655765), Cond.constant RJ6 266 (858993459)]
def wsL_kinship_r2 : List Cond := [Cond.constant RJ6 267 (252645135)]
def wsL_kinship : List Cond := .codeWith yL_kinship cL_kinship 5 (some .int) [(0, 10, 13, 13)] :: ((wsL_kinship_r1 ++ wsL_kinship_r2) ++ wsX20 ++ wsX00 ++ (vx_atS RX2 242 "java/lang/IndexOutOfBoundsException" ["java/lang/RuntimeException", "java/lang/Exception"]).filter goodWord)
def wsL_sharedBeasts_r1 : List Cond := [Cond.classLink RL 13 "java/lang/IndexOutOfBoundsException", Cond.methodLink RL 74 yX2_sharedBeasts, Cond.instanceMethod yX2_sharedBeasts, Cond.selects RX2 yX2_sharedBeasts yX2_sharedBeasts, Cond.initialized RX2, Cond.code yX2_sharedBeasts cX2_sharedBeasts 3 (some .int), Cond.fieldLink RX2 10 "FableIndex" "book" "LFableIndex$Book;", Cond.fieldLink RX2 50 "FableIndex$Book" "beasts" "[I", Cond.methodLink RX2 47 yX2_needFable, Cond.instanceMethod yX2_needFable, Cond.selects RX2 yX2_needFable yX2_needFable, Cond.code yX2_needFable cX2_needFable 2 none, Cond.classLink RX2 238 "java/lang/IndexOutOfBoundsException", Cond.initialized "java/lang/IndexOutOfBoundsException", Cond.fieldLink RX2 146 "FableIndex$Book" "count" "I", Cond.methodLink RX2 70 yX2_size, Cond.static yX2_size, Cond.code yX2_size cX2_size 1 (some .int), Cond.methodLink RX2 253 yJ6_bitCount_0f7a4, Cond.static yJ6_bitCount_0f7a4, Cond.initialized RJ6, Cond.code yJ6_bitCount_0f7a4 cJ6_bitCount_0f7a4 1 (some .int), Cond.constant RJ6 265 (1431655765), Cond.constant RJ6 266 (858993459)]
def wsL_sharedBeasts_r2 : List Cond := [Cond.constant RJ6 267 (252645135)]
def wsL_sharedBeasts : List Cond := .codeWith yL_sharedBeasts cL_sharedBeasts 5 (some .int) [(0, 10, 13, 13)] :: ((wsL_sharedBeasts_r1 ++ wsL_sharedBeasts_r2) ++ wsX20 ++ wsX00 ++ (vx_atS RX2 242 "java/lang/IndexOutOfBoundsException" ["java/lang/RuntimeException", "java/lang/Exception"]).filter goodWord)
def wsL_isOpen : List Cond := .codeWith yL_isOpen cL_isOpen 5 (some .int) [(0, 17, 20, 13)] :: ([.classLink RL 13 "java/lang/IndexOutOfBoundsException", .methodLink RL 77 yX2_isOpen, .instanceMethod yX2_isOpen, .selects RX2 yX2_isOpen yX2_isOpen, .initialized RX2, .code yX2_isOpen cX2_isOpen 3 (some .boolean), .fieldLink RX2 19 "FableIndex" "land" "LFableIndex$Land;", .fieldLink RX2 94 "FableIndex$Land" "ways" "[I", .methodLink RX2 37 yX2_needValley, .static yX2_needValley, .code yX2_needValley cX2_needValley 1 none, .classLink RX2 238 "java/lang/IndexOutOfBoundsException", .initialized "java/lang/IndexOutOfBoundsException", .methodLink RX2 54 yX2_has, .static yX2_has, .code yX2_has cX2_has 2 (some .boolean)] ++ wsX20 ++ wsX10 ++ (vx_atS RX2 242 "java/lang/IndexOutOfBoundsException" ["java/lang/RuntimeException", "java/lang/Exception"]).filter goodWord)
def wsL_isBanned_r1 : List Cond := [Cond.classLink RL 13 "java/lang/IndexOutOfBoundsException", Cond.methodLink RL 80 yX2_isBanned, Cond.instanceMethod yX2_isBanned, Cond.selects RX2 yX2_isBanned yX2_isBanned, Cond.initialized RX2, Cond.code yX2_isBanned cX2_isBanned 3 (some .boolean), Cond.fieldLink RX2 19 "FableIndex" "land" "LFableIndex$Land;", Cond.fieldLink RX2 10 "FableIndex" "book" "LFableIndex$Book;", Cond.methodLink RX2 47 yX2_needFable, Cond.instanceMethod yX2_needFable, Cond.selects RX2 yX2_needFable yX2_needFable, Cond.code yX2_needFable cX2_needFable 2 none, Cond.classLink RX2 238 "java/lang/IndexOutOfBoundsException", Cond.initialized "java/lang/IndexOutOfBoundsException", Cond.fieldLink RX2 146 "FableIndex$Book" "count" "I", Cond.methodLink RX2 37 yX2_needValley, Cond.static yX2_needValley, Cond.code yX2_needValley cX2_needValley 1 none, Cond.methodLink RX2 108 yX1_bans, Cond.instanceMethod yX1_bans, Cond.selects RX1 yX1_bans yX1_bans, Cond.initialized RX1, Cond.code yX1_bans cX1_bans 4 (some .boolean), Cond.fieldLink RX1 15 "FableIndex$Land" "bannedMorals" "[I"]
def wsL_isBanned_r2 : List Cond := [Cond.fieldLink RX1 38 "FableIndex$Book" "moral" "[I", Cond.fieldLink RX1 18 "FableIndex$Land" "bannedBeasts" "[I", Cond.fieldLink RX1 47 "FableIndex$Book" "beasts" "[I", Cond.static yX2_has, Cond.code yX2_has cX2_has 2 (some .boolean)]
def wsL_isBanned : List Cond := .codeWith yL_isBanned cL_isBanned 5 (some .int) [(0, 17, 20, 13)] :: ((wsL_isBanned_r1 ++ wsL_isBanned_r2) ++ wsX20 ++ wsX00 ++ wsX10 ++ (vx_atS RX2 242 "java/lang/IndexOutOfBoundsException" ["java/lang/RuntimeException", "java/lang/Exception"]).filter goodWord)
def wsL_isTold : List Cond := .codeWith yL_isTold cL_isTold 5 (some .int) [(0, 17, 20, 13)] :: ([.classLink RL 13 "java/lang/IndexOutOfBoundsException", .methodLink RL 83 yX2_isTold, .instanceMethod yX2_isTold, .selects RX2 yX2_isTold yX2_isTold, .initialized RX2, .code yX2_isTold cX2_isTold 3 (some .boolean), .fieldLink RX2 19 "FableIndex" "land" "LFableIndex$Land;", .fieldLink RX2 103 "FableIndex$Land" "told" "[I", .methodLink RX2 47 yX2_needFable, .instanceMethod yX2_needFable, .selects RX2 yX2_needFable yX2_needFable, .code yX2_needFable cX2_needFable 2 none, .classLink RX2 238 "java/lang/IndexOutOfBoundsException", .initialized "java/lang/IndexOutOfBoundsException", .fieldLink RX2 10 "FableIndex" "book" "LFableIndex$Book;", .fieldLink RX2 146 "FableIndex$Book" "count" "I", .methodLink RX2 37 yX2_needValley, .static yX2_needValley, .code yX2_needValley cX2_needValley 1 none, .methodLink RX2 54 yX2_has, .static yX2_has, .code yX2_has cX2_has 2 (some .boolean)] ++ wsX20 ++ wsX10 ++ wsX00 ++ (vx_atS RX2 242 "java/lang/IndexOutOfBoundsException" ["java/lang/RuntimeException", "java/lang/Exception"]).filter goodWord)
def wsL_toldIn : List Cond := .codeWith yL_toldIn cL_toldIn 4 (some .int) [(0, 9, 12, 13)] :: ([.classLink RL 13 "java/lang/IndexOutOfBoundsException", .methodLink RL 86 yX2_toldIn, .instanceMethod yX2_toldIn, .selects RX2 yX2_toldIn yX2_toldIn, .initialized RX2, .code yX2_toldIn cX2_toldIn 2 (some .int), .fieldLink RX2 19 "FableIndex" "land" "LFableIndex$Land;", .fieldLink RX2 103 "FableIndex$Land" "told" "[I", .methodLink RX2 37 yX2_needValley, .static yX2_needValley, .code yX2_needValley cX2_needValley 1 none, .classLink RX2 238 "java/lang/IndexOutOfBoundsException", .initialized "java/lang/IndexOutOfBoundsException", .methodLink RX2 70 yX2_size, .static yX2_size, .code yX2_size cX2_size 1 (some .int), .methodLink RX2 253 yJ6_bitCount_0f7a4, .static yJ6_bitCount_0f7a4, .initialized RJ6, .code yJ6_bitCount_0f7a4 cJ6_bitCount_0f7a4 1 (some .int), .constant RJ6 265 (1431655765), .constant RJ6 266 (858993459), .constant RJ6 267 (252645135)] ++ wsX20 ++ wsX10 ++ (vx_atS RX2 242 "java/lang/IndexOutOfBoundsException" ["java/lang/RuntimeException", "java/lang/Exception"]).filter goodWord)
def wsL_allowedIn_r1 : List Cond := [Cond.classLink RL 13 "java/lang/IndexOutOfBoundsException", Cond.methodLink RL 89 yX2_allowedIn, Cond.instanceMethod yX2_allowedIn, Cond.selects RX2 yX2_allowedIn yX2_allowedIn, Cond.initialized RX2, Cond.code yX2_allowedIn cX2_allowedIn 2 (some .int), Cond.fieldLink RX2 19 "FableIndex" "land" "LFableIndex$Land;", Cond.fieldLink RX2 10 "FableIndex" "book" "LFableIndex$Book;", Cond.methodLink RX2 37 yX2_needValley, Cond.static yX2_needValley, Cond.code yX2_needValley cX2_needValley 1 none, Cond.classLink RX2 238 "java/lang/IndexOutOfBoundsException", Cond.initialized "java/lang/IndexOutOfBoundsException", Cond.methodLink RX2 142 yX1_welcome, Cond.instanceMethod yX1_welcome, Cond.selects RX1 yX1_welcome yX1_welcome, Cond.initialized RX1, Cond.code yX1_welcome cX1_welcome 5 (some .int), Cond.fieldLink RX1 50 "FableIndex$Book" "count" "I", Cond.methodLink RX1 53 yX1_bans, Cond.instanceMethod yX1_bans, Cond.selects RX1 yX1_bans yX1_bans, Cond.code yX1_bans cX1_bans 4 (some .boolean), Cond.fieldLink RX1 15 "FableIndex$Land" "bannedMorals" "[I"]
def wsL_allowedIn_r2 : List Cond := [Cond.fieldLink RX1 38 "FableIndex$Book" "moral" "[I", Cond.fieldLink RX1 18 "FableIndex$Land" "bannedBeasts" "[I", Cond.fieldLink RX1 47 "FableIndex$Book" "beasts" "[I", Cond.static yX2_has, Cond.code yX2_has cX2_has 2 (some .boolean), Cond.methodLink RX2 70 yX2_size, Cond.static yX2_size, Cond.code yX2_size cX2_size 1 (some .int), Cond.methodLink RX2 253 yJ6_bitCount_0f7a4, Cond.static yJ6_bitCount_0f7a4, Cond.initialized RJ6, Cond.code yJ6_bitCount_0f7a4 cJ6_bitCount_0f7a4 1 (some .int), Cond.constant RJ6 265 (1431655765), Cond.constant RJ6 266 (858993459), Cond.constant RJ6 267 (252645135)]
def wsL_allowedIn : List Cond := .codeWith yL_allowedIn cL_allowedIn 4 (some .int) [(0, 9, 12, 13)] :: ((wsL_allowedIn_r1 ++ wsL_allowedIn_r2) ++ wsX20 ++ wsX00 ++ wsX10 ++ (vx_atS RX2 242 "java/lang/IndexOutOfBoundsException" ["java/lang/RuntimeException", "java/lang/Exception"]).filter goodWord)
def wsL_bansOf : List Cond := .codeWith yL_bansOf cL_bansOf 4 (some .int) [(0, 9, 12, 13)] :: ([.classLink RL 13 "java/lang/IndexOutOfBoundsException", .methodLink RL 92 yX2_bansOf, .instanceMethod yX2_bansOf, .selects RX2 yX2_bansOf yX2_bansOf, .initialized RX2, .code yX2_bansOf cX2_bansOf 2 (some .int), .fieldLink RX2 19 "FableIndex" "land" "LFableIndex$Land;", .fieldLink RX2 97 "FableIndex$Land" "bannedMorals" "[I", .fieldLink RX2 100 "FableIndex$Land" "bannedBeasts" "[I", .methodLink RX2 37 yX2_needValley, .static yX2_needValley, .code yX2_needValley cX2_needValley 1 none, .classLink RX2 238 "java/lang/IndexOutOfBoundsException", .initialized "java/lang/IndexOutOfBoundsException", .methodLink RX2 70 yX2_size, .static yX2_size, .code yX2_size cX2_size 1 (some .int), .methodLink RX2 253 yJ6_bitCount_0f7a4, .static yJ6_bitCount_0f7a4, .initialized RJ6, .code yJ6_bitCount_0f7a4 cJ6_bitCount_0f7a4 1 (some .int), .constant RJ6 265 (1431655765), .constant RJ6 266 (858993459), .constant RJ6 267 (252645135)] ++ wsX20 ++ wsX10 ++ (vx_atS RX2 242 "java/lang/IndexOutOfBoundsException" ["java/lang/RuntimeException", "java/lang/Exception"]).filter goodWord)
def wsL_fablesWithMoral_r1 : List Cond := [Cond.classLink RL 13 "java/lang/IndexOutOfBoundsException", Cond.methodLink RL 95 yX2_fablesWithMoral, Cond.instanceMethod yX2_fablesWithMoral, Cond.selects RX2 yX2_fablesWithMoral yX2_fablesWithMoral, Cond.initialized RX2, Cond.code yX2_fablesWithMoral cX2_fablesWithMoral 2 (some .int), Cond.fieldLink RX2 10 "FableIndex" "book" "LFableIndex$Book;", Cond.methodLink RX2 30 yX2_needMoral, Cond.static yX2_needMoral, Cond.code yX2_needMoral cX2_needMoral 1 none, Cond.classLink RX2 238 "java/lang/IndexOutOfBoundsException", Cond.initialized "java/lang/IndexOutOfBoundsException", Cond.methodLink RX2 151 yX0_withMoral, Cond.instanceMethod yX0_withMoral, Cond.selects RX0 yX0_withMoral yX0_withMoral, Cond.initialized RX0, Cond.code yX0_withMoral cX0_withMoral 4 (some .int), Cond.fieldLink RX0 9 "FableIndex$Book" "count" "I", Cond.fieldLink RX0 15 "FableIndex$Book" "moral" "[I", Cond.methodLink RX2 70 yX2_size, Cond.static yX2_size, Cond.code yX2_size cX2_size 1 (some .int), Cond.methodLink RX2 253 yJ6_bitCount_0f7a4, Cond.static yJ6_bitCount_0f7a4]
def wsL_fablesWithMoral_r2 : List Cond := [Cond.initialized RJ6, Cond.code yJ6_bitCount_0f7a4 cJ6_bitCount_0f7a4 1 (some .int), Cond.constant RJ6 265 (1431655765), Cond.constant RJ6 266 (858993459), Cond.constant RJ6 267 (252645135)]
def wsL_fablesWithMoral : List Cond := .codeWith yL_fablesWithMoral cL_fablesWithMoral 4 (some .int) [(0, 9, 12, 13)] :: ((wsL_fablesWithMoral_r1 ++ wsL_fablesWithMoral_r2) ++ wsX20 ++ wsX00 ++ (vx_atS RX2 242 "java/lang/IndexOutOfBoundsException" ["java/lang/RuntimeException", "java/lang/Exception"]).filter goodWord)
def wsL_fablesWithBeast_r1 : List Cond := [Cond.classLink RL 13 "java/lang/IndexOutOfBoundsException", Cond.methodLink RL 98 yX2_fablesWithBeast, Cond.instanceMethod yX2_fablesWithBeast, Cond.selects RX2 yX2_fablesWithBeast yX2_fablesWithBeast, Cond.initialized RX2, Cond.code yX2_fablesWithBeast cX2_fablesWithBeast 2 (some .int), Cond.fieldLink RX2 10 "FableIndex" "book" "LFableIndex$Book;", Cond.methodLink RX2 34 yX2_needBeast, Cond.static yX2_needBeast, Cond.code yX2_needBeast cX2_needBeast 1 none, Cond.classLink RX2 238 "java/lang/IndexOutOfBoundsException", Cond.initialized "java/lang/IndexOutOfBoundsException", Cond.methodLink RX2 154 yX0_withBeast, Cond.instanceMethod yX0_withBeast, Cond.selects RX0 yX0_withBeast yX0_withBeast, Cond.initialized RX0, Cond.code yX0_withBeast cX0_withBeast 4 (some .int), Cond.fieldLink RX0 9 "FableIndex$Book" "count" "I", Cond.fieldLink RX0 19 "FableIndex$Book" "beasts" "[I", Cond.static yX2_has, Cond.code yX2_has cX2_has 2 (some .boolean), Cond.methodLink RX2 70 yX2_size, Cond.static yX2_size, Cond.code yX2_size cX2_size 1 (some .int)]
def wsL_fablesWithBeast_r2 : List Cond := [Cond.methodLink RX2 253 yJ6_bitCount_0f7a4, Cond.static yJ6_bitCount_0f7a4, Cond.initialized RJ6, Cond.code yJ6_bitCount_0f7a4 cJ6_bitCount_0f7a4 1 (some .int), Cond.constant RJ6 265 (1431655765), Cond.constant RJ6 266 (858993459), Cond.constant RJ6 267 (252645135)]
def wsL_fablesWithBeast : List Cond := .codeWith yL_fablesWithBeast cL_fablesWithBeast 4 (some .int) [(0, 9, 12, 13)] :: ((wsL_fablesWithBeast_r1 ++ wsL_fablesWithBeast_r2) ++ wsX20 ++ wsX00 ++ (vx_atS RX2 242 "java/lang/IndexOutOfBoundsException" ["java/lang/RuntimeException", "java/lang/Exception"]).filter goodWord)
def wsL_seasonsUntil_r1 : List Cond := [Cond.classLink RL 13 "java/lang/IndexOutOfBoundsException", Cond.methodLink RL 101 yX2_seasonsUntil, Cond.instanceMethod yX2_seasonsUntil, Cond.selects RX2 yX2_seasonsUntil yX2_seasonsUntil, Cond.initialized RX2, Cond.code yX2_seasonsUntil cX2_seasonsUntil 4 (some .int), Cond.fieldLink RX2 23 "FableIndex" "trial" "LFableIndex$Land;", Cond.fieldLink RX2 19 "FableIndex" "land" "LFableIndex$Land;", Cond.fieldLink RX2 103 "FableIndex$Land" "told" "[I", Cond.fieldLink RX2 10 "FableIndex" "book" "LFableIndex$Book;", Cond.methodLink RX2 47 yX2_needFable, Cond.instanceMethod yX2_needFable, Cond.selects RX2 yX2_needFable yX2_needFable, Cond.code yX2_needFable cX2_needFable 2 none, Cond.classLink RX2 238 "java/lang/IndexOutOfBoundsException", Cond.initialized "java/lang/IndexOutOfBoundsException", Cond.fieldLink RX2 146 "FableIndex$Book" "count" "I", Cond.methodLink RX2 37 yX2_needValley, Cond.static yX2_needValley, Cond.code yX2_needValley cX2_needValley 1 none, Cond.methodLink RX2 157 yX1_become, Cond.instanceMethod yX1_become, Cond.selects RX1 yX1_become yX1_become, Cond.initialized RX1]
def wsL_seasonsUntil_r2 : List Cond := [Cond.code yX1_become cX1_become 3 none, Cond.fieldLink RX1 9 "FableIndex$Land" "ways" "[I", Cond.fieldLink RX1 15 "FableIndex$Land" "bannedMorals" "[I", Cond.fieldLink RX1 18 "FableIndex$Land" "bannedBeasts" "[I", Cond.fieldLink RX1 21 "FableIndex$Land" "told" "[I", Cond.fieldLink RX1 30 "FableIndex$Land" "hushed" "I", Cond.methodLink RX2 54 yX2_has, Cond.static yX2_has, Cond.code yX2_has cX2_has 2 (some .boolean), Cond.methodLink RX2 122 yX1_live, Cond.instanceMethod yX1_live, Cond.selects RX1 yX1_live yX1_live, Cond.code yX1_live cX1_live 5 none, Cond.fieldLink RX1 24 "FableIndex$Land" "allowed" "[I", Cond.methodLink RX1 61 yX1_welcome, Cond.instanceMethod yX1_welcome, Cond.selects RX1 yX1_welcome yX1_welcome, Cond.code yX1_welcome cX1_welcome 5 (some .int), Cond.fieldLink RX1 50 "FableIndex$Book" "count" "I", Cond.methodLink RX1 53 yX1_bans, Cond.instanceMethod yX1_bans, Cond.selects RX1 yX1_bans yX1_bans, Cond.code yX1_bans cX1_bans 4 (some .boolean), Cond.fieldLink RX1 38 "FableIndex$Book" "moral" "[I"]
def wsL_seasonsUntil_r3 : List Cond := [Cond.fieldLink RX1 47 "FableIndex$Book" "beasts" "[I", Cond.methodLink RX1 65 yX1_hush, Cond.instanceMethod yX1_hush, Cond.selects RX1 yX1_hush yX1_hush, Cond.code yX1_hush cX1_hush 2 none, Cond.fieldLink RX1 27 "FableIndex$Land" "kept" "[I", Cond.static yX2_size, Cond.code yX2_size cX2_size 1 (some .int), Cond.methodLink RX2 253 yJ6_bitCount_0f7a4, Cond.static yJ6_bitCount_0f7a4, Cond.initialized RJ6, Cond.code yJ6_bitCount_0f7a4 cJ6_bitCount_0f7a4 1 (some .int), Cond.constant RJ6 265 (1431655765), Cond.constant RJ6 266 (858993459), Cond.constant RJ6 267 (252645135), Cond.methodLink RX1 68 yX1_spread, Cond.instanceMethod yX1_spread, Cond.selects RX1 yX1_spread yX1_spread, Cond.code yX1_spread cX1_spread 5 (some .boolean), Cond.methodLink RX1 72 yX1_arriving, Cond.instanceMethod yX1_arriving, Cond.selects RX1 yX1_arriving yX1_arriving, Cond.code yX1_arriving cX1_arriving 4 (some .int), Cond.methodLink RX1 75 yX1_admitted]
def wsL_seasonsUntil_r4 : List Cond := [Cond.instanceMethod yX1_admitted, Cond.selects RX1 yX1_admitted yX1_admitted, Cond.code yX1_admitted cX1_admitted 7 (some .int), Cond.fieldLink RX1 79 "FableIndex$Book" "variants" "[I", Cond.static yX2_smallestAlone, Cond.code yX2_smallestAlone cX2_smallestAlone 1 (some .int)]
def wsL_seasonsUntil : List Cond := .codeWith yL_seasonsUntil cL_seasonsUntil 5 (some .int) [(0, 10, 13, 13)] :: ((wsL_seasonsUntil_r1 ++ (wsL_seasonsUntil_r2 ++ (wsL_seasonsUntil_r3 ++ wsL_seasonsUntil_r4))) ++ wsX20 ++ wsX10 ++ wsX00 ++ (vx_atS RX2 242 "java/lang/IndexOutOfBoundsException" ["java/lang/RuntimeException", "java/lang/Exception"]).filter goodWord)
def wsL_tellingsAfter_r1 : List Cond := [Cond.classLink RL 29 "java/lang/IllegalArgumentException", Cond.methodLink RL 104 yX2_tellingsAfter, Cond.instanceMethod yX2_tellingsAfter, Cond.selects RX2 yX2_tellingsAfter yX2_tellingsAfter, Cond.initialized RX2, Cond.code yX2_tellingsAfter cX2_tellingsAfter 2 (some .int), Cond.fieldLink RX2 23 "FableIndex" "trial" "LFableIndex$Land;", Cond.fieldLink RX2 19 "FableIndex" "land" "LFableIndex$Land;", Cond.methodLink RX2 119 yX2_needSeasons, Cond.static yX2_needSeasons, Cond.code yX2_needSeasons cX2_needSeasons 2 none, Cond.classLink RX2 85 "java/lang/IllegalArgumentException", Cond.initialized "java/lang/IllegalArgumentException", Cond.methodLink RX2 157 yX1_become, Cond.instanceMethod yX1_become, Cond.selects RX1 yX1_become yX1_become, Cond.initialized RX1, Cond.code yX1_become cX1_become 3 none, Cond.fieldLink RX1 9 "FableIndex$Land" "ways" "[I", Cond.fieldLink RX1 15 "FableIndex$Land" "bannedMorals" "[I", Cond.fieldLink RX1 18 "FableIndex$Land" "bannedBeasts" "[I", Cond.fieldLink RX1 21 "FableIndex$Land" "told" "[I", Cond.fieldLink RX1 30 "FableIndex$Land" "hushed" "I", Cond.methodLink RX2 161 yX2_tellingsOfTrial]
def wsL_tellingsAfter_r2 : List Cond := [Cond.instanceMethod yX2_tellingsOfTrial, Cond.selects RX2 yX2_tellingsOfTrial yX2_tellingsOfTrial, Cond.code yX2_tellingsOfTrial cX2_tellingsOfTrial 2 (some .int), Cond.fieldLink RX2 10 "FableIndex" "book" "LFableIndex$Book;", Cond.methodLink RX2 122 yX1_live, Cond.instanceMethod yX1_live, Cond.selects RX1 yX1_live yX1_live, Cond.code yX1_live cX1_live 5 none, Cond.fieldLink RX1 24 "FableIndex$Land" "allowed" "[I", Cond.methodLink RX1 61 yX1_welcome, Cond.instanceMethod yX1_welcome, Cond.selects RX1 yX1_welcome yX1_welcome, Cond.code yX1_welcome cX1_welcome 5 (some .int), Cond.fieldLink RX1 50 "FableIndex$Book" "count" "I", Cond.methodLink RX1 53 yX1_bans, Cond.instanceMethod yX1_bans, Cond.selects RX1 yX1_bans yX1_bans, Cond.code yX1_bans cX1_bans 4 (some .boolean), Cond.fieldLink RX1 38 "FableIndex$Book" "moral" "[I", Cond.fieldLink RX1 47 "FableIndex$Book" "beasts" "[I", Cond.static yX2_has, Cond.code yX2_has cX2_has 2 (some .boolean), Cond.methodLink RX1 65 yX1_hush, Cond.instanceMethod yX1_hush]
def wsL_tellingsAfter_r3 : List Cond := [Cond.selects RX1 yX1_hush yX1_hush, Cond.code yX1_hush cX1_hush 2 none, Cond.fieldLink RX1 27 "FableIndex$Land" "kept" "[I", Cond.static yX2_size, Cond.code yX2_size cX2_size 1 (some .int), Cond.methodLink RX2 253 yJ6_bitCount_0f7a4, Cond.static yJ6_bitCount_0f7a4, Cond.initialized RJ6, Cond.code yJ6_bitCount_0f7a4 cJ6_bitCount_0f7a4 1 (some .int), Cond.constant RJ6 265 (1431655765), Cond.constant RJ6 266 (858993459), Cond.constant RJ6 267 (252645135), Cond.methodLink RX1 68 yX1_spread, Cond.instanceMethod yX1_spread, Cond.selects RX1 yX1_spread yX1_spread, Cond.code yX1_spread cX1_spread 5 (some .boolean), Cond.methodLink RX1 72 yX1_arriving, Cond.instanceMethod yX1_arriving, Cond.selects RX1 yX1_arriving yX1_arriving, Cond.code yX1_arriving cX1_arriving 4 (some .int), Cond.methodLink RX1 75 yX1_admitted, Cond.instanceMethod yX1_admitted, Cond.selects RX1 yX1_admitted yX1_admitted, Cond.code yX1_admitted cX1_admitted 7 (some .int)]
def wsL_tellingsAfter_r4 : List Cond := [Cond.fieldLink RX1 79 "FableIndex$Book" "variants" "[I", Cond.static yX2_smallestAlone, Cond.code yX2_smallestAlone cX2_smallestAlone 1 (some .int), Cond.methodLink RX2 126 yX0_all, Cond.instanceMethod yX0_all, Cond.selects RX0 yX0_all yX0_all, Cond.initialized RX0, Cond.code yX0_all cX0_all 1 (some .int), Cond.fieldLink RX0 9 "FableIndex$Book" "count" "I", Cond.methodLink RX2 114 yX1_count, Cond.instanceMethod yX1_count, Cond.selects RX1 yX1_count yX1_count, Cond.code yX1_count cX1_count 4 (some .int)]
def wsL_tellingsAfter : List Cond := .codeWith yL_tellingsAfter cL_tellingsAfter 4 (some .int) [(0, 9, 12, 29)] :: ((wsL_tellingsAfter_r1 ++ (wsL_tellingsAfter_r2 ++ (wsL_tellingsAfter_r3 ++ wsL_tellingsAfter_r4))) ++ wsX20 ++ wsX10 ++ wsX00 ++ (vx_atS RX2 89 "java/lang/IllegalArgumentException" ["java/lang/RuntimeException", "java/lang/Exception"]).filter goodWord)
def wsL_bestPass_r1 : List Cond := [Cond.classLink RL 29 "java/lang/IllegalArgumentException", Cond.methodLink RL 107 yX2_bestPass, Cond.instanceMethod yX2_bestPass, Cond.selects RX2 yX2_bestPass yX2_bestPass, Cond.initialized RX2, Cond.code yX2_bestPass cX2_bestPass 7 (some .int), Cond.fieldLink RX2 23 "FableIndex" "trial" "LFableIndex$Land;", Cond.fieldLink RX2 19 "FableIndex" "land" "LFableIndex$Land;", Cond.fieldLink RX2 94 "FableIndex$Land" "ways" "[I", Cond.methodLink RX2 119 yX2_needSeasons, Cond.static yX2_needSeasons, Cond.code yX2_needSeasons cX2_needSeasons 2 none, Cond.classLink RX2 85 "java/lang/IllegalArgumentException", Cond.initialized "java/lang/IllegalArgumentException", Cond.methodLink RX2 157 yX1_become, Cond.instanceMethod yX1_become, Cond.selects RX1 yX1_become yX1_become, Cond.initialized RX1, Cond.code yX1_become cX1_become 3 none, Cond.fieldLink RX1 9 "FableIndex$Land" "ways" "[I", Cond.fieldLink RX1 15 "FableIndex$Land" "bannedMorals" "[I", Cond.fieldLink RX1 18 "FableIndex$Land" "bannedBeasts" "[I", Cond.fieldLink RX1 21 "FableIndex$Land" "told" "[I", Cond.fieldLink RX1 30 "FableIndex$Land" "hushed" "I"]
def wsL_bestPass_r2 : List Cond := [Cond.methodLink RX2 161 yX2_tellingsOfTrial, Cond.instanceMethod yX2_tellingsOfTrial, Cond.selects RX2 yX2_tellingsOfTrial yX2_tellingsOfTrial, Cond.code yX2_tellingsOfTrial cX2_tellingsOfTrial 2 (some .int), Cond.fieldLink RX2 10 "FableIndex" "book" "LFableIndex$Book;", Cond.methodLink RX2 122 yX1_live, Cond.instanceMethod yX1_live, Cond.selects RX1 yX1_live yX1_live, Cond.code yX1_live cX1_live 5 none, Cond.fieldLink RX1 24 "FableIndex$Land" "allowed" "[I", Cond.methodLink RX1 61 yX1_welcome, Cond.instanceMethod yX1_welcome, Cond.selects RX1 yX1_welcome yX1_welcome, Cond.code yX1_welcome cX1_welcome 5 (some .int), Cond.fieldLink RX1 50 "FableIndex$Book" "count" "I", Cond.methodLink RX1 53 yX1_bans, Cond.instanceMethod yX1_bans, Cond.selects RX1 yX1_bans yX1_bans, Cond.code yX1_bans cX1_bans 4 (some .boolean), Cond.fieldLink RX1 38 "FableIndex$Book" "moral" "[I", Cond.fieldLink RX1 47 "FableIndex$Book" "beasts" "[I", Cond.static yX2_has, Cond.code yX2_has cX2_has 2 (some .boolean), Cond.methodLink RX1 65 yX1_hush]
def wsL_bestPass_r3 : List Cond := [Cond.instanceMethod yX1_hush, Cond.selects RX1 yX1_hush yX1_hush, Cond.code yX1_hush cX1_hush 2 none, Cond.fieldLink RX1 27 "FableIndex$Land" "kept" "[I", Cond.static yX2_size, Cond.code yX2_size cX2_size 1 (some .int), Cond.methodLink RX2 253 yJ6_bitCount_0f7a4, Cond.static yJ6_bitCount_0f7a4, Cond.initialized RJ6, Cond.code yJ6_bitCount_0f7a4 cJ6_bitCount_0f7a4 1 (some .int), Cond.constant RJ6 265 (1431655765), Cond.constant RJ6 266 (858993459), Cond.constant RJ6 267 (252645135), Cond.methodLink RX1 68 yX1_spread, Cond.instanceMethod yX1_spread, Cond.selects RX1 yX1_spread yX1_spread, Cond.code yX1_spread cX1_spread 5 (some .boolean), Cond.methodLink RX1 72 yX1_arriving, Cond.instanceMethod yX1_arriving, Cond.selects RX1 yX1_arriving yX1_arriving, Cond.code yX1_arriving cX1_arriving 4 (some .int), Cond.methodLink RX1 75 yX1_admitted, Cond.instanceMethod yX1_admitted, Cond.selects RX1 yX1_admitted yX1_admitted]
def wsL_bestPass_r4 : List Cond := [Cond.code yX1_admitted cX1_admitted 7 (some .int), Cond.fieldLink RX1 79 "FableIndex$Book" "variants" "[I", Cond.static yX2_smallestAlone, Cond.code yX2_smallestAlone cX2_smallestAlone 1 (some .int), Cond.methodLink RX2 126 yX0_all, Cond.instanceMethod yX0_all, Cond.selects RX0 yX0_all yX0_all, Cond.initialized RX0, Cond.code yX0_all cX0_all 1 (some .int), Cond.fieldLink RX0 9 "FableIndex$Book" "count" "I", Cond.methodLink RX2 114 yX1_count, Cond.instanceMethod yX1_count, Cond.selects RX1 yX1_count yX1_count, Cond.code yX1_count cX1_count 4 (some .int), Cond.methodLink RX2 54 yX2_has, Cond.methodLink RX2 164 yX2_tellingsWithPass, Cond.instanceMethod yX2_tellingsWithPass, Cond.selects RX2 yX2_tellingsWithPass yX2_tellingsWithPass, Cond.code yX2_tellingsWithPass cX2_tellingsWithPass 4 (some .int), Cond.methodLink RX2 90 yX1_turnWay, Cond.instanceMethod yX1_turnWay, Cond.selects RX1 yX1_turnWay yX1_turnWay, Cond.code yX1_turnWay cX1_turnWay 3 none, Cond.static yX2_turned]
def wsL_bestPass_r5 : List Cond := [Cond.code yX2_turned cX2_turned 2 (some .int)]
def wsL_bestPass : List Cond := .codeWith yL_bestPass cL_bestPass 4 (some .int) [(0, 9, 12, 29)] :: ((wsL_bestPass_r1 ++ (wsL_bestPass_r2 ++ (wsL_bestPass_r3 ++ (wsL_bestPass_r4 ++ wsL_bestPass_r5)))) ++ wsX20 ++ wsX10 ++ wsX00 ++ (vx_atS RX2 89 "java/lang/IllegalArgumentException" ["java/lang/RuntimeException", "java/lang/Exception"]).filter goodWord)
def wsL_law0_r1 : List Cond := [Cond.classLink RL 8 RX2, Cond.instantiable RX2 4, Cond.initialized RX2, Cond.classLink RL 111 RX3, Cond.instantiable RX3 14, Cond.initialized RX3, Cond.arrayClass .long, Cond.methodLink RL 110 yX2_init, Cond.instanceMethod yX2_init, Cond.code yX2_init cX2_init 1 none, Cond.methodLink RX2 1 objectInit, Cond.instanceMethod objectInit, Cond.code objectInit ⟨#[0xb1]⟩ 1 none, Cond.classLink RX2 7 RX0, Cond.instantiable RX0 7, Cond.initialized RX0, Cond.fieldLink RX2 10 "FableIndex" "book" "LFableIndex$Book;", Cond.classLink RX2 16 RX1, Cond.instantiable RX1 7, Cond.initialized RX1, Cond.fieldLink RX2 19 "FableIndex" "land" "LFableIndex$Land;", Cond.fieldLink RX2 23 "FableIndex" "trial" "LFableIndex$Land;", Cond.fieldLink RX2 26 "FableIndex" "season" "I", Cond.methodLink RX2 9 yX0_init]
def wsL_law0_r2 : List Cond := [Cond.instanceMethod yX0_init, Cond.code yX0_init cX0_init 1 none, Cond.methodLink RX0 3 objectInit, Cond.fieldLink RX0 9 "FableIndex$Book" "count" "I", Cond.arrayClass .int, Cond.fieldLink RX0 15 "FableIndex$Book" "moral" "[I", Cond.fieldLink RX0 19 "FableIndex$Book" "beasts" "[I", Cond.fieldLink RX0 22 "FableIndex$Book" "home" "[I", Cond.fieldLink RX0 25 "FableIndex$Book" "parent" "[I", Cond.fieldLink RX0 28 "FableIndex$Book" "variants" "[I", Cond.fieldLink RX0 31 "FableIndex$Book" "ancestors" "[I", Cond.methodLink RX2 18 yX1_init, Cond.instanceMethod yX1_init, Cond.code yX1_init cX1_init 1 none, Cond.methodLink RX1 3 objectInit, Cond.fieldLink RX1 9 "FableIndex$Land" "ways" "[I", Cond.fieldLink RX1 15 "FableIndex$Land" "bannedMorals" "[I", Cond.fieldLink RX1 18 "FableIndex$Land" "bannedBeasts" "[I", Cond.fieldLink RX1 21 "FableIndex$Land" "told" "[I", Cond.fieldLink RX1 24 "FableIndex$Land" "allowed" "[I", Cond.fieldLink RX1 27 "FableIndex$Land" "kept" "[I", Cond.fieldLink RX1 30 "FableIndex$Land" "hushed" "I", Cond.methodLink RL 113 yX3_init, Cond.instanceMethod yX3_init]
def wsL_law0_r3 : List Cond := [Cond.code yX3_init cX3_init 1 none, Cond.methodLink RX3 1 objectInit, Cond.fieldLink RX3 9 "FableIndexModel" "moral" "[I", Cond.fieldLink RX3 13 "FableIndexModel" "beasts" "[I", Cond.fieldLink RX3 16 "FableIndexModel" "home" "[I", Cond.fieldLink RX3 19 "FableIndexModel" "parent" "[I", Cond.fieldLink RX3 22 "FableIndexModel" "told" "[I", Cond.fieldLink RX3 25 "FableIndexModel" "morals" "[I", Cond.fieldLink RX3 28 "FableIndexModel" "bans" "[I", Cond.fieldLink RX3 31 "FableIndexModel" "passes" "[I", Cond.fieldLink RX3 34 "FableIndexModel" "next" "[I", Cond.fieldLink RX3 37 "FableIndexModel" "kept" "[I", Cond.methodLink RL 114 yL_addFable, Cond.static yL_addFable, Cond.initialized RL, Cond.codeWith yL_addFable cL_addFable 6 (some .int) [(0, 12, 15, 13), (0, 12, 19, 15)], Cond.classLink RL 13 "java/lang/IndexOutOfBoundsException", Cond.classLink RL 15 "java/lang/IllegalStateException", Cond.methodLink RL 7 yX2_addFable, Cond.instanceMethod yX2_addFable, Cond.selects RX2 yX2_addFable yX2_addFable, Cond.code yX2_addFable cX2_addFable 4 (some .int), Cond.methodLink RX2 30 yX2_needMoral, Cond.static yX2_needMoral]
def wsL_law0_r4 : List Cond := [Cond.code yX2_needMoral cX2_needMoral 1 none, Cond.classLink RX2 238 "java/lang/IndexOutOfBoundsException", Cond.initialized "java/lang/IndexOutOfBoundsException", Cond.methodLink RX2 34 yX2_needBeast, Cond.static yX2_needBeast, Cond.code yX2_needBeast cX2_needBeast 1 none, Cond.methodLink RX2 37 yX2_needValley, Cond.static yX2_needValley, Cond.code yX2_needValley cX2_needValley 1 none, Cond.methodLink RX2 40 yX2_needFreePage, Cond.instanceMethod yX2_needFreePage, Cond.selects RX2 yX2_needFreePage yX2_needFreePage, Cond.code yX2_needFreePage cX2_needFreePage 1 none, Cond.classLink RX2 58 "java/lang/IllegalStateException", Cond.initialized "java/lang/IllegalStateException", Cond.fieldLink RX2 146 "FableIndex$Book" "count" "I", Cond.methodLink RX2 43 yX0_write, Cond.instanceMethod yX0_write, Cond.selects RX0 yX0_write yX0_write, Cond.code yX0_write cX0_write 6 (some .int), Cond.methodLink RL 119 yX3_addFable, Cond.instanceMethod yX3_addFable, Cond.selects RX3 yX3_addFable yX3_addFable, Cond.code yX3_addFable cX3_addFable 4 (some .int)]
def wsL_law0_r5 : List Cond := [Cond.fieldLink RX3 40 "FableIndexModel" "thrown" "I", Cond.fieldLink RX3 44 "FableIndexModel" "fables" "I", Cond.methodLink RX3 55 yX3_isMoral, Cond.static yX3_isMoral, Cond.code yX3_isMoral cX3_isMoral 1 (some .boolean), Cond.methodLink RX3 47 yX3_isIn, Cond.static yX3_isIn, Cond.code yX3_isIn cX3_isIn 3 (some .boolean), Cond.methodLink RX3 59 yX3_isBeast, Cond.static yX3_isBeast, Cond.code yX3_isBeast cX3_isBeast 1 (some .boolean), Cond.methodLink RX3 62 yX3_isValley, Cond.static yX3_isValley, Cond.code yX3_isValley cX3_isValley 1 (some .boolean), Cond.methodLink RX3 65 yX3_fail, Cond.instanceMethod yX3_fail, Cond.selects RX3 yX3_fail yX3_fail, Cond.code yX3_fail cX3_fail 2 (some .int), Cond.methodLink RX3 69 yX3_write, Cond.instanceMethod yX3_write, Cond.selects RX3 yX3_write yX3_write, Cond.code yX3_write cX3_write 5 (some .int), Cond.methodLink RL 120 yX3_thrown, Cond.instanceMethod yX3_thrown]
def wsL_law0_r6 : List Cond := [Cond.selects RX3 yX3_thrown yX3_thrown, Cond.code yX3_thrown cX3_thrown 1 (some .int), Cond.methodLink RL 124 yL_addBeast, Cond.static yL_addBeast, Cond.codeWith yL_addBeast cL_addBeast 5 (some .int) [(0, 10, 13, 13), (0, 10, 17, 15)], Cond.methodLink RL 17 yX2_addBeast, Cond.instanceMethod yX2_addBeast, Cond.selects RX2 yX2_addBeast yX2_addBeast, Cond.code yX2_addBeast cX2_addBeast 3 (some .int), Cond.fieldLink RX2 50 "FableIndex$Book" "beasts" "[I", Cond.fieldLink RX2 65 "FableIndex$Book" "variants" "[I", Cond.methodLink RX2 47 yX2_needFable, Cond.instanceMethod yX2_needFable, Cond.selects RX2 yX2_needFable yX2_needFable, Cond.code yX2_needFable cX2_needFable 2 none, Cond.methodLink RX2 54 yX2_has, Cond.static yX2_has, Cond.code yX2_has cX2_has 2 (some .boolean), Cond.methodLink RX2 70 yX2_size, Cond.static yX2_size, Cond.code yX2_size cX2_size 1 (some .int), Cond.methodLink RX2 253 yJ6_bitCount_0f7a4, Cond.static yJ6_bitCount_0f7a4, Cond.initialized RJ6]
def wsL_law0_r7 : List Cond := [Cond.code yJ6_bitCount_0f7a4 cJ6_bitCount_0f7a4 1 (some .int), Cond.constant RJ6 265 (1431655765), Cond.constant RJ6 266 (858993459), Cond.constant RJ6 267 (252645135), Cond.methodLink RL 127 yX3_addBeast, Cond.instanceMethod yX3_addBeast, Cond.selects RX3 yX3_addBeast yX3_addBeast, Cond.code yX3_addBeast cX3_addBeast 3 (some .int), Cond.methodLink RX3 73 yX3_isFable, Cond.instanceMethod yX3_isFable, Cond.selects RX3 yX3_isFable yX3_isFable, Cond.code yX3_isFable cX3_isFable 2 (some .boolean), Cond.methodLink RX3 51 yX3_has, Cond.static yX3_has, Cond.code yX3_has cX3_has 2 (some .boolean), Cond.methodLink RX3 76 yX3_children, Cond.instanceMethod yX3_children, Cond.selects RX3 yX3_children yX3_children, Cond.code yX3_children cX3_children 4 (some .int), Cond.methodLink RX3 79 yX3_many, Cond.static yX3_many, Cond.code yX3_many cX3_many 3 (some .int), Cond.methodLink RL 128 yL_addVariant, Cond.static yL_addVariant]
def wsL_law0_r8 : List Cond := [Cond.codeWith yL_addVariant cL_addVariant 7 (some .int) [(0, 14, 17, 13), (0, 14, 21, 15)], Cond.methodLink RL 21 yX2_addVariant, Cond.instanceMethod yX2_addVariant, Cond.selects RX2 yX2_addVariant yX2_addVariant, Cond.code yX2_addVariant cX2_addVariant 6 (some .int), Cond.fieldLink RX2 78 "FableIndex$Book" "moral" "[I", Cond.methodLink RX2 81 yX2_turned, Cond.static yX2_turned, Cond.code yX2_turned cX2_turned 2 (some .int), Cond.methodLink RL 131 yX3_addVariant, Cond.instanceMethod yX3_addVariant, Cond.selects RX3 yX3_addVariant yX3_addVariant, Cond.code yX3_addVariant cX3_addVariant 5 (some .int), Cond.methodLink RL 132 yL_turnPass, Cond.static yL_turnPass, Cond.codeWith yL_turnPass cL_turnPass 5 (some .int) [(0, 17, 20, 13), (0, 17, 24, 29)], Cond.classLink RL 29 "java/lang/IllegalArgumentException", Cond.methodLink RL 25 yX2_turnPass, Cond.instanceMethod yX2_turnPass, Cond.selects RX2 yX2_turnPass yX2_turnPass, Cond.code yX2_turnPass cX2_turnPass 3 (some .boolean), Cond.classLink RX2 85 "java/lang/IllegalArgumentException", Cond.initialized "java/lang/IllegalArgumentException", Cond.fieldLink RX2 94 "FableIndex$Land" "ways" "[I"]
def wsL_law0_r9 : List Cond := [Cond.methodLink RX2 90 yX1_turnWay, Cond.instanceMethod yX1_turnWay, Cond.selects RX1 yX1_turnWay yX1_turnWay, Cond.code yX1_turnWay cX1_turnWay 3 none, Cond.methodLink RL 134 yX3_turnPass, Cond.instanceMethod yX3_turnPass, Cond.selects RX3 yX3_turnPass yX3_turnPass, Cond.code yX3_turnPass cX3_turnPass 3 (some .boolean), Cond.methodLink RX3 82 yX3_failed, Cond.instanceMethod yX3_failed, Cond.selects RX3 yX3_failed yX3_failed, Cond.code yX3_failed cX3_failed 2 (some .boolean), Cond.methodLink RL 135 yL_turnMoral, Cond.static yL_turnMoral, Cond.codeWith yL_turnMoral cL_turnMoral 5 (some .int) [(0, 17, 20, 13)], Cond.methodLink RL 31 yX2_turnMoral, Cond.instanceMethod yX2_turnMoral, Cond.selects RX2 yX2_turnMoral yX2_turnMoral, Cond.code yX2_turnMoral cX2_turnMoral 3 (some .boolean), Cond.fieldLink RX2 97 "FableIndex$Land" "bannedMorals" "[I", Cond.methodLink RL 137 yX3_turnMoral, Cond.instanceMethod yX3_turnMoral, Cond.selects RX3 yX3_turnMoral yX3_turnMoral, Cond.code yX3_turnMoral cX3_turnMoral 3 (some .boolean)]
def wsL_law0_r10 : List Cond := [Cond.methodLink RL 138 yL_turnBeast, Cond.static yL_turnBeast, Cond.codeWith yL_turnBeast cL_turnBeast 5 (some .int) [(0, 17, 20, 13)], Cond.methodLink RL 34 yX2_turnBeast, Cond.instanceMethod yX2_turnBeast, Cond.selects RX2 yX2_turnBeast yX2_turnBeast, Cond.code yX2_turnBeast cX2_turnBeast 3 (some .boolean), Cond.fieldLink RX2 100 "FableIndex$Land" "bannedBeasts" "[I", Cond.methodLink RL 140 yX3_turnBeast, Cond.instanceMethod yX3_turnBeast, Cond.selects RX3 yX3_turnBeast yX3_turnBeast, Cond.code yX3_turnBeast cX3_turnBeast 3 (some .boolean), Cond.methodLink RL 141 yL_tell, Cond.static yL_tell, Cond.codeWith yL_tell cL_tell 5 (some .int) [(0, 10, 13, 13), (0, 10, 17, 15)], Cond.methodLink RL 37 yX2_tell, Cond.instanceMethod yX2_tell, Cond.selects RX2 yX2_tell yX2_tell, Cond.code yX2_tell cX2_tell 3 (some .int), Cond.fieldLink RX2 103 "FableIndex$Land" "told" "[I", Cond.methodLink RX2 108 yX1_bans, Cond.instanceMethod yX1_bans, Cond.selects RX1 yX1_bans yX1_bans, Cond.code yX1_bans cX1_bans 4 (some .boolean)]
def wsL_law0_r11 : List Cond := [Cond.fieldLink RX1 38 "FableIndex$Book" "moral" "[I", Cond.fieldLink RX1 47 "FableIndex$Book" "beasts" "[I", Cond.methodLink RX2 114 yX1_count, Cond.instanceMethod yX1_count, Cond.selects RX1 yX1_count yX1_count, Cond.code yX1_count cX1_count 4 (some .int), Cond.methodLink RL 143 yX3_tell, Cond.instanceMethod yX3_tell, Cond.selects RX3 yX3_tell yX3_tell, Cond.code yX3_tell cX3_tell 3 (some .int), Cond.methodLink RX3 85 yX3_isPlace, Cond.instanceMethod yX3_isPlace, Cond.selects RX3 yX3_isPlace yX3_isPlace, Cond.code yX3_isPlace cX3_isPlace 3 (some .boolean), Cond.methodLink RX3 88 yX3_banned, Cond.instanceMethod yX3_banned, Cond.selects RX3 yX3_banned yX3_banned, Cond.code yX3_banned cX3_banned 3 (some .boolean), Cond.methodLink RX3 91 yX3_placesOf, Cond.instanceMethod yX3_placesOf, Cond.selects RX3 yX3_placesOf yX3_placesOf, Cond.code yX3_placesOf cX3_placesOf 4 (some .int), Cond.methodLink RL 144 yL_forget, Cond.static yL_forget]
def wsL_law0_r12 : List Cond := [Cond.codeWith yL_forget cL_forget 5 (some .int) [(0, 10, 13, 13), (0, 10, 17, 15)], Cond.methodLink RL 40 yX2_forget, Cond.instanceMethod yX2_forget, Cond.selects RX2 yX2_forget yX2_forget, Cond.code yX2_forget cX2_forget 3 (some .int), Cond.methodLink RL 146 yX3_forget, Cond.instanceMethod yX3_forget, Cond.selects RX3 yX3_forget yX3_forget, Cond.code yX3_forget cX3_forget 3 (some .int), Cond.methodLink RL 147 yL_passSeasons, Cond.static yL_passSeasons, Cond.codeWith yL_passSeasons cL_passSeasons 4 (some .int) [(0, 9, 12, 29)], Cond.methodLink RL 43 yX2_passSeasons, Cond.instanceMethod yX2_passSeasons, Cond.selects RX2 yX2_passSeasons yX2_passSeasons, Cond.code yX2_passSeasons cX2_passSeasons 2 (some .int), Cond.methodLink RX2 119 yX2_needSeasons, Cond.static yX2_needSeasons, Cond.code yX2_needSeasons cX2_needSeasons 2 none, Cond.methodLink RX2 122 yX1_live, Cond.instanceMethod yX1_live, Cond.selects RX1 yX1_live yX1_live, Cond.code yX1_live cX1_live 5 none, Cond.methodLink RX1 61 yX1_welcome]
def wsL_law0_r13 : List Cond := [Cond.instanceMethod yX1_welcome, Cond.selects RX1 yX1_welcome yX1_welcome, Cond.code yX1_welcome cX1_welcome 5 (some .int), Cond.fieldLink RX1 50 "FableIndex$Book" "count" "I", Cond.methodLink RX1 53 yX1_bans, Cond.methodLink RX1 65 yX1_hush, Cond.instanceMethod yX1_hush, Cond.selects RX1 yX1_hush yX1_hush, Cond.code yX1_hush cX1_hush 2 none, Cond.methodLink RX1 68 yX1_spread, Cond.instanceMethod yX1_spread, Cond.selects RX1 yX1_spread yX1_spread, Cond.code yX1_spread cX1_spread 5 (some .boolean), Cond.methodLink RX1 72 yX1_arriving, Cond.instanceMethod yX1_arriving, Cond.selects RX1 yX1_arriving yX1_arriving, Cond.code yX1_arriving cX1_arriving 4 (some .int), Cond.methodLink RX1 75 yX1_admitted, Cond.instanceMethod yX1_admitted, Cond.selects RX1 yX1_admitted yX1_admitted, Cond.code yX1_admitted cX1_admitted 7 (some .int), Cond.fieldLink RX1 79 "FableIndex$Book" "variants" "[I", Cond.static yX2_smallestAlone, Cond.code yX2_smallestAlone cX2_smallestAlone 1 (some .int)]
def wsL_law0_r14 : List Cond := [Cond.methodLink RX2 126 yX0_all, Cond.instanceMethod yX0_all, Cond.selects RX0 yX0_all yX0_all, Cond.code yX0_all cX0_all 1 (some .int), Cond.methodLink RL 150 yX3_passSeasons, Cond.instanceMethod yX3_passSeasons, Cond.selects RX3 yX3_passSeasons yX3_passSeasons, Cond.code yX3_passSeasons cX3_passSeasons 3 (some .int), Cond.fieldLink RX3 104 "FableIndexModel" "silenced" "I", Cond.fieldLink RX3 111 "FableIndexModel" "season" "I", Cond.methodLink RX3 107 yX3_seasonOn, Cond.instanceMethod yX3_seasonOn, Cond.selects RX3 yX3_seasonOn yX3_seasonOn, Cond.code yX3_seasonOn cX3_seasonOn 6 (some .int), Cond.methodLink RX3 98 arraycopyName, Cond.native arraycopyName, Cond.static arraycopyName, Cond.initialized "java/lang/System", Cond.methodLink RX3 94 yX3_comes, Cond.instanceMethod yX3_comes, Cond.selects RX3 yX3_comes yX3_comes, Cond.code yX3_comes cX3_comes 4 (some .int), Cond.methodLink RX3 114 yX3_all, Cond.instanceMethod yX3_all]
def wsL_law0_r15 : List Cond := [Cond.selects RX3 yX3_all yX3_all, Cond.code yX3_all cX3_all 6 (some .int), Cond.methodLink RL 151 yL_moralOf, Cond.static yL_moralOf, Cond.codeWith yL_moralOf cL_moralOf 4 (some .int) [(0, 9, 12, 13)], Cond.methodLink RL 47 yX2_moralOf, Cond.instanceMethod yX2_moralOf, Cond.selects RX2 yX2_moralOf yX2_moralOf, Cond.code yX2_moralOf cX2_moralOf 2 (some .int), Cond.methodLink RL 153 yX3_moralOf, Cond.instanceMethod yX3_moralOf, Cond.selects RX3 yX3_moralOf yX3_moralOf, Cond.code yX3_moralOf cX3_moralOf 2 (some .int), Cond.methodLink RL 154 yL_beastsOf, Cond.static yL_beastsOf, Cond.codeWith yL_beastsOf cL_beastsOf 4 (some .int) [(0, 9, 12, 13)], Cond.methodLink RL 50 yX2_beastsOf, Cond.instanceMethod yX2_beastsOf, Cond.selects RX2 yX2_beastsOf yX2_beastsOf, Cond.code yX2_beastsOf cX2_beastsOf 2 (some .int), Cond.methodLink RL 156 yX3_beastsOf, Cond.instanceMethod yX3_beastsOf, Cond.selects RX3 yX3_beastsOf yX3_beastsOf, Cond.code yX3_beastsOf cX3_beastsOf 2 (some .int)]
def wsL_law0_r16 : List Cond := [Cond.methodLink RL 157 yL_hasBeast, Cond.static yL_hasBeast, Cond.codeWith yL_hasBeast cL_hasBeast 5 (some .int) [(0, 17, 20, 13)], Cond.methodLink RL 53 yX2_hasBeast, Cond.instanceMethod yX2_hasBeast, Cond.selects RX2 yX2_hasBeast yX2_hasBeast, Cond.code yX2_hasBeast cX2_hasBeast 3 (some .boolean), Cond.methodLink RL 159 yX3_hasBeast, Cond.instanceMethod yX3_hasBeast, Cond.selects RX3 yX3_hasBeast yX3_hasBeast, Cond.code yX3_hasBeast cX3_hasBeast 3 (some .boolean), Cond.methodLink RL 160 yL_homeOf, Cond.static yL_homeOf, Cond.codeWith yL_homeOf cL_homeOf 4 (some .int) [(0, 9, 12, 13)], Cond.methodLink RL 56 yX2_homeOf, Cond.instanceMethod yX2_homeOf, Cond.selects RX2 yX2_homeOf yX2_homeOf, Cond.code yX2_homeOf cX2_homeOf 2 (some .int), Cond.fieldLink RX2 130 "FableIndex$Book" "home" "[I", Cond.methodLink RL 162 yX3_homeOf, Cond.instanceMethod yX3_homeOf, Cond.selects RX3 yX3_homeOf yX3_homeOf, Cond.code yX3_homeOf cX3_homeOf 2 (some .int), Cond.methodLink RL 163 yL_parentOf]
def wsL_law0_r17 : List Cond := [Cond.static yL_parentOf, Cond.codeWith yL_parentOf cL_parentOf 4 (some .int) [(0, 9, 12, 13)], Cond.methodLink RL 59 yX2_parentOf, Cond.instanceMethod yX2_parentOf, Cond.selects RX2 yX2_parentOf yX2_parentOf, Cond.code yX2_parentOf cX2_parentOf 2 (some .int), Cond.fieldLink RX2 133 "FableIndex$Book" "parent" "[I", Cond.methodLink RL 165 yX3_parentOf, Cond.instanceMethod yX3_parentOf, Cond.selects RX3 yX3_parentOf yX3_parentOf, Cond.code yX3_parentOf cX3_parentOf 2 (some .int), Cond.methodLink RL 166 yL_variantsOf, Cond.static yL_variantsOf, Cond.codeWith yL_variantsOf cL_variantsOf 4 (some .int) [(0, 9, 12, 13)], Cond.methodLink RL 62 yX2_variantsOf, Cond.instanceMethod yX2_variantsOf, Cond.selects RX2 yX2_variantsOf yX2_variantsOf, Cond.code yX2_variantsOf cX2_variantsOf 2 (some .int), Cond.methodLink RL 168 yX3_variantsOf, Cond.instanceMethod yX3_variantsOf, Cond.selects RX3 yX3_variantsOf yX3_variantsOf, Cond.code yX3_variantsOf cX3_variantsOf 2 (some .int), Cond.methodLink RL 169 yL_valleysOf, Cond.static yL_valleysOf]
def wsL_law0_r18 : List Cond := [Cond.codeWith yL_valleysOf cL_valleysOf 4 (some .int) [(0, 9, 12, 13)], Cond.methodLink RL 65 yX2_valleysOf, Cond.instanceMethod yX2_valleysOf, Cond.selects RX2 yX2_valleysOf yX2_valleysOf, Cond.code yX2_valleysOf cX2_valleysOf 2 (some .int), Cond.methodLink RL 171 yX3_valleysOf, Cond.instanceMethod yX3_valleysOf, Cond.selects RX3 yX3_valleysOf yX3_valleysOf, Cond.code yX3_valleysOf cX3_valleysOf 2 (some .int), Cond.methodLink RL 172 yL_nearestAncestor, Cond.static yL_nearestAncestor, Cond.codeWith yL_nearestAncestor cL_nearestAncestor 5 (some .int) [(0, 10, 13, 13)], Cond.methodLink RL 68 yX2_nearestAncestor, Cond.instanceMethod yX2_nearestAncestor, Cond.selects RX2 yX2_nearestAncestor yX2_nearestAncestor, Cond.code yX2_nearestAncestor cX2_nearestAncestor 3 (some .int), Cond.fieldLink RX2 136 "FableIndex$Book" "ancestors" "[I", Cond.methodLink RX2 139 yX2_greatest, Cond.static yX2_greatest, Cond.code yX2_greatest cX2_greatest 2 (some .int), Cond.methodLink RL 174 yX3_nearestAncestor, Cond.instanceMethod yX3_nearestAncestor, Cond.selects RX3 yX3_nearestAncestor yX3_nearestAncestor, Cond.code yX3_nearestAncestor cX3_nearestAncestor 3 (some .int)]
def wsL_law0_r19 : List Cond := [Cond.methodLink RX3 120 yX3_nearest, Cond.instanceMethod yX3_nearest, Cond.selects RX3 yX3_nearest yX3_nearest, Cond.code yX3_nearest cX3_nearest 5 (some .int), Cond.methodLink RX3 117 yX3_ancestors, Cond.instanceMethod yX3_ancestors, Cond.selects RX3 yX3_ancestors yX3_ancestors, Cond.code yX3_ancestors cX3_ancestors 4 (some .int), Cond.methodLink RL 175 yL_kinship, Cond.static yL_kinship, Cond.codeWith yL_kinship cL_kinship 5 (some .int) [(0, 10, 13, 13)], Cond.methodLink RL 71 yX2_kinship, Cond.instanceMethod yX2_kinship, Cond.selects RX2 yX2_kinship yX2_kinship, Cond.code yX2_kinship cX2_kinship 3 (some .int), Cond.methodLink RL 177 yX3_kinship, Cond.instanceMethod yX3_kinship, Cond.selects RX3 yX3_kinship yX3_kinship, Cond.code yX3_kinship cX3_kinship 4 (some .int), Cond.methodLink RL 178 yL_sharedBeasts, Cond.static yL_sharedBeasts, Cond.codeWith yL_sharedBeasts cL_sharedBeasts 5 (some .int) [(0, 10, 13, 13)], Cond.methodLink RL 74 yX2_sharedBeasts, Cond.instanceMethod yX2_sharedBeasts]
def wsL_law0_r20 : List Cond := [Cond.selects RX2 yX2_sharedBeasts yX2_sharedBeasts, Cond.code yX2_sharedBeasts cX2_sharedBeasts 3 (some .int), Cond.methodLink RL 180 yX3_sharedBeasts, Cond.instanceMethod yX3_sharedBeasts, Cond.selects RX3 yX3_sharedBeasts yX3_sharedBeasts, Cond.code yX3_sharedBeasts cX3_sharedBeasts 3 (some .int), Cond.methodLink RL 181 yL_isOpen, Cond.static yL_isOpen, Cond.codeWith yL_isOpen cL_isOpen 5 (some .int) [(0, 17, 20, 13)], Cond.methodLink RL 77 yX2_isOpen, Cond.instanceMethod yX2_isOpen, Cond.selects RX2 yX2_isOpen yX2_isOpen, Cond.code yX2_isOpen cX2_isOpen 3 (some .boolean), Cond.methodLink RL 183 yX3_isOpen, Cond.instanceMethod yX3_isOpen, Cond.selects RX3 yX3_isOpen yX3_isOpen, Cond.code yX3_isOpen cX3_isOpen 3 (some .boolean), Cond.methodLink RL 184 yL_isBanned, Cond.static yL_isBanned, Cond.codeWith yL_isBanned cL_isBanned 5 (some .int) [(0, 17, 20, 13)], Cond.methodLink RL 80 yX2_isBanned, Cond.instanceMethod yX2_isBanned, Cond.selects RX2 yX2_isBanned yX2_isBanned, Cond.code yX2_isBanned cX2_isBanned 3 (some .boolean)]
def wsL_law0_r21 : List Cond := [Cond.methodLink RL 186 yX3_isBanned, Cond.instanceMethod yX3_isBanned, Cond.selects RX3 yX3_isBanned yX3_isBanned, Cond.code yX3_isBanned cX3_isBanned 3 (some .boolean), Cond.methodLink RL 187 yL_isTold, Cond.static yL_isTold, Cond.codeWith yL_isTold cL_isTold 5 (some .int) [(0, 17, 20, 13)], Cond.methodLink RL 83 yX2_isTold, Cond.instanceMethod yX2_isTold, Cond.selects RX2 yX2_isTold yX2_isTold, Cond.code yX2_isTold cX2_isTold 3 (some .boolean), Cond.methodLink RL 189 yX3_isTold, Cond.instanceMethod yX3_isTold, Cond.selects RX3 yX3_isTold yX3_isTold, Cond.code yX3_isTold cX3_isTold 3 (some .boolean), Cond.methodLink RL 190 yL_toldIn, Cond.static yL_toldIn, Cond.codeWith yL_toldIn cL_toldIn 4 (some .int) [(0, 9, 12, 13)], Cond.methodLink RL 86 yX2_toldIn, Cond.instanceMethod yX2_toldIn, Cond.selects RX2 yX2_toldIn yX2_toldIn, Cond.code yX2_toldIn cX2_toldIn 2 (some .int), Cond.methodLink RL 192 yX3_toldIn, Cond.instanceMethod yX3_toldIn]
def wsL_law0_r22 : List Cond := [Cond.selects RX3 yX3_toldIn yX3_toldIn, Cond.code yX3_toldIn cX3_toldIn 2 (some .int), Cond.methodLink RL 193 yL_allowedIn, Cond.static yL_allowedIn, Cond.codeWith yL_allowedIn cL_allowedIn 4 (some .int) [(0, 9, 12, 13)], Cond.methodLink RL 89 yX2_allowedIn, Cond.instanceMethod yX2_allowedIn, Cond.selects RX2 yX2_allowedIn yX2_allowedIn, Cond.code yX2_allowedIn cX2_allowedIn 2 (some .int), Cond.methodLink RX2 142 yX1_welcome, Cond.methodLink RL 195 yX3_allowedIn, Cond.instanceMethod yX3_allowedIn, Cond.selects RX3 yX3_allowedIn yX3_allowedIn, Cond.code yX3_allowedIn cX3_allowedIn 2 (some .int), Cond.methodLink RX3 123 yX3_allowed, Cond.instanceMethod yX3_allowed, Cond.selects RX3 yX3_allowed yX3_allowed, Cond.code yX3_allowed cX3_allowed 4 (some .int), Cond.methodLink RL 196 yL_bansOf, Cond.static yL_bansOf, Cond.codeWith yL_bansOf cL_bansOf 4 (some .int) [(0, 9, 12, 13)], Cond.methodLink RL 92 yX2_bansOf, Cond.instanceMethod yX2_bansOf, Cond.selects RX2 yX2_bansOf yX2_bansOf]
def wsL_law0_r23 : List Cond := [Cond.code yX2_bansOf cX2_bansOf 2 (some .int), Cond.methodLink RL 198 yX3_bansOf, Cond.instanceMethod yX3_bansOf, Cond.selects RX3 yX3_bansOf yX3_bansOf, Cond.code yX3_bansOf cX3_bansOf 2 (some .int), Cond.methodLink RX3 126 yX3_bansIn, Cond.instanceMethod yX3_bansIn, Cond.selects RX3 yX3_bansIn yX3_bansIn, Cond.code yX3_bansIn cX3_bansIn 2 (some .int), Cond.methodLink RL 199 yX2_fables, Cond.instanceMethod yX2_fables, Cond.selects RX2 yX2_fables yX2_fables, Cond.code yX2_fables cX2_fables 1 (some .int), Cond.methodLink RL 202 yX3_fables, Cond.instanceMethod yX3_fables, Cond.selects RX3 yX3_fables yX3_fables, Cond.code yX3_fables cX3_fables 1 (some .int), Cond.methodLink RL 203 yX2_season, Cond.instanceMethod yX2_season, Cond.selects RX2 yX2_season yX2_season, Cond.code yX2_season cX2_season 1 (some .int), Cond.methodLink RL 206 yX3_season, Cond.instanceMethod yX3_season, Cond.selects RX3 yX3_season yX3_season]
def wsL_law0_r24 : List Cond := [Cond.code yX3_season cX3_season 1 (some .int), Cond.methodLink RL 207 yX2_tellings, Cond.instanceMethod yX2_tellings, Cond.selects RX2 yX2_tellings yX2_tellings, Cond.code yX2_tellings cX2_tellings 1 (some .int), Cond.methodLink RL 210 yX3_tellings, Cond.instanceMethod yX3_tellings, Cond.selects RX3 yX3_tellings yX3_tellings, Cond.code yX3_tellings cX3_tellings 1 (some .int), Cond.methodLink RL 211 yX2_silenced, Cond.instanceMethod yX2_silenced, Cond.selects RX2 yX2_silenced yX2_silenced, Cond.code yX2_silenced cX2_silenced 1 (some .int), Cond.fieldLink RX2 148 "FableIndex$Land" "hushed" "I", Cond.methodLink RL 214 yX3_silenced, Cond.instanceMethod yX3_silenced, Cond.selects RX3 yX3_silenced yX3_silenced, Cond.code yX3_silenced cX3_silenced 1 (some .int), Cond.methodLink RL 215 yL_fablesWithMoral, Cond.static yL_fablesWithMoral, Cond.codeWith yL_fablesWithMoral cL_fablesWithMoral 4 (some .int) [(0, 9, 12, 13)], Cond.methodLink RL 95 yX2_fablesWithMoral, Cond.instanceMethod yX2_fablesWithMoral, Cond.selects RX2 yX2_fablesWithMoral yX2_fablesWithMoral]
def wsL_law0_r25 : List Cond := [Cond.code yX2_fablesWithMoral cX2_fablesWithMoral 2 (some .int), Cond.methodLink RX2 151 yX0_withMoral, Cond.instanceMethod yX0_withMoral, Cond.selects RX0 yX0_withMoral yX0_withMoral, Cond.code yX0_withMoral cX0_withMoral 4 (some .int), Cond.methodLink RL 217 yX3_fablesWithMoral, Cond.instanceMethod yX3_fablesWithMoral, Cond.selects RX3 yX3_fablesWithMoral yX3_fablesWithMoral, Cond.code yX3_fablesWithMoral cX3_fablesWithMoral 4 (some .int), Cond.methodLink RL 218 yL_fablesWithBeast, Cond.static yL_fablesWithBeast, Cond.codeWith yL_fablesWithBeast cL_fablesWithBeast 4 (some .int) [(0, 9, 12, 13)], Cond.methodLink RL 98 yX2_fablesWithBeast, Cond.instanceMethod yX2_fablesWithBeast, Cond.selects RX2 yX2_fablesWithBeast yX2_fablesWithBeast, Cond.code yX2_fablesWithBeast cX2_fablesWithBeast 2 (some .int), Cond.methodLink RX2 154 yX0_withBeast, Cond.instanceMethod yX0_withBeast, Cond.selects RX0 yX0_withBeast yX0_withBeast, Cond.code yX0_withBeast cX0_withBeast 4 (some .int), Cond.methodLink RL 220 yX3_fablesWithBeast, Cond.instanceMethod yX3_fablesWithBeast, Cond.selects RX3 yX3_fablesWithBeast yX3_fablesWithBeast, Cond.code yX3_fablesWithBeast cX3_fablesWithBeast 4 (some .int)]
def wsL_law0_r26 : List Cond := [Cond.methodLink RL 221 yX2_favouriteMoral, Cond.instanceMethod yX2_favouriteMoral, Cond.selects RX2 yX2_favouriteMoral yX2_favouriteMoral, Cond.code yX2_favouriteMoral cX2_favouriteMoral 5 (some .int), Cond.methodLink RL 224 yX3_favouriteMoral, Cond.instanceMethod yX3_favouriteMoral, Cond.selects RX3 yX3_favouriteMoral yX3_favouriteMoral, Cond.code yX3_favouriteMoral cX3_favouriteMoral 1 (some .int), Cond.methodLink RX3 129 yX3_favourite, Cond.instanceMethod yX3_favourite, Cond.selects RX3 yX3_favourite yX3_favourite, Cond.code yX3_favourite cX3_favourite 7 (some .int), Cond.methodLink RL 225 yX2_favouriteBeast, Cond.instanceMethod yX2_favouriteBeast, Cond.selects RX2 yX2_favouriteBeast yX2_favouriteBeast, Cond.code yX2_favouriteBeast cX2_favouriteBeast 5 (some .int), Cond.methodLink RL 228 yX3_favouriteBeast, Cond.instanceMethod yX3_favouriteBeast, Cond.selects RX3 yX3_favouriteBeast yX3_favouriteBeast, Cond.code yX3_favouriteBeast cX3_favouriteBeast 1 (some .int), Cond.methodLink RL 229 yL_seasonsUntil, Cond.static yL_seasonsUntil, Cond.codeWith yL_seasonsUntil cL_seasonsUntil 5 (some .int) [(0, 10, 13, 13)], Cond.methodLink RL 101 yX2_seasonsUntil]
def wsL_law0_r27 : List Cond := [Cond.instanceMethod yX2_seasonsUntil, Cond.selects RX2 yX2_seasonsUntil yX2_seasonsUntil, Cond.code yX2_seasonsUntil cX2_seasonsUntil 4 (some .int), Cond.methodLink RX2 157 yX1_become, Cond.instanceMethod yX1_become, Cond.selects RX1 yX1_become yX1_become, Cond.code yX1_become cX1_become 3 none, Cond.methodLink RL 231 yX3_seasonsUntil, Cond.instanceMethod yX3_seasonsUntil, Cond.selects RX3 yX3_seasonsUntil yX3_seasonsUntil, Cond.code yX3_seasonsUntil cX3_seasonsUntil 4 (some .int), Cond.methodLink RX3 133 yX3_keep, Cond.instanceMethod yX3_keep, Cond.selects RX3 yX3_keep yX3_keep, Cond.code yX3_keep cX3_keep 1 none, Cond.methodLink RX3 136 yX3_bringBack, Cond.instanceMethod yX3_bringBack, Cond.selects RX3 yX3_bringBack yX3_bringBack, Cond.code yX3_bringBack cX3_bringBack 1 none, Cond.methodLink RL 232 yL_tellingsAfter, Cond.static yL_tellingsAfter, Cond.codeWith yL_tellingsAfter cL_tellingsAfter 4 (some .int) [(0, 9, 12, 29)], Cond.methodLink RL 104 yX2_tellingsAfter, Cond.instanceMethod yX2_tellingsAfter]
def wsL_law0_r28 : List Cond := [Cond.selects RX2 yX2_tellingsAfter yX2_tellingsAfter, Cond.code yX2_tellingsAfter cX2_tellingsAfter 2 (some .int), Cond.methodLink RX2 161 yX2_tellingsOfTrial, Cond.instanceMethod yX2_tellingsOfTrial, Cond.selects RX2 yX2_tellingsOfTrial yX2_tellingsOfTrial, Cond.code yX2_tellingsOfTrial cX2_tellingsOfTrial 2 (some .int), Cond.methodLink RL 234 yX3_tellingsAfter, Cond.instanceMethod yX3_tellingsAfter, Cond.selects RX3 yX3_tellingsAfter yX3_tellingsAfter, Cond.code yX3_tellingsAfter cX3_tellingsAfter 2 (some .int), Cond.methodLink RX3 139 yX3_after, Cond.instanceMethod yX3_after, Cond.selects RX3 yX3_after yX3_after, Cond.code yX3_after cX3_after 3 (some .int), Cond.methodLink RL 235 yL_bestPass, Cond.static yL_bestPass, Cond.codeWith yL_bestPass cL_bestPass 4 (some .int) [(0, 9, 12, 29)], Cond.methodLink RL 107 yX2_bestPass, Cond.instanceMethod yX2_bestPass, Cond.selects RX2 yX2_bestPass yX2_bestPass, Cond.code yX2_bestPass cX2_bestPass 7 (some .int), Cond.methodLink RX2 164 yX2_tellingsWithPass, Cond.instanceMethod yX2_tellingsWithPass, Cond.selects RX2 yX2_tellingsWithPass yX2_tellingsWithPass]
def wsL_law0_r29 : List Cond := [Cond.code yX2_tellingsWithPass cX2_tellingsWithPass 4 (some .int), Cond.methodLink RL 237 yX3_bestPass, Cond.instanceMethod yX3_bestPass, Cond.selects RX3 yX3_bestPass yX3_bestPass, Cond.code yX3_bestPass cX3_bestPass 7 (some .int), Cond.methodLink RL 238 yX2_meanBeasts, Cond.instanceMethod yX2_meanBeasts, Cond.selects RX2 yX2_meanBeasts yX2_meanBeasts, Cond.code yX2_meanBeasts cX2_meanBeasts 3 (some .double), Cond.methodLink RL 242 yX3_meanBeasts, Cond.instanceMethod yX3_meanBeasts, Cond.selects RX3 yX3_meanBeasts yX3_meanBeasts, Cond.code yX3_meanBeasts cX3_meanBeasts 3 (some .double), Cond.methodLink RL 243 yX2_digest, Cond.instanceMethod yX2_digest, Cond.selects RX2 yX2_digest yX2_digest, Cond.code yX2_digest cX2_digest 4 (some .long), Cond.constantLong RX2 168 (1861), Cond.methodLink RX2 170 yX2_fables, Cond.methodLink RX2 173 yX2_mixed, Cond.static yX2_mixed, Cond.code yX2_mixed cX2_mixed 3 (some .long), Cond.constantLong RX2 236 (31), Cond.methodLink RX2 177 yX2_season]
def wsL_law0_r30 : List Cond := [Cond.methodLink RX2 179 yX2_tellings, Cond.methodLink RX2 182 yX2_silenced, Cond.methodLink RX2 185 yX2_favouriteMoral, Cond.methodLink RX2 188 yX2_favouriteBeast, Cond.methodLink RX2 191 yX2_mixedWithFable, Cond.instanceMethod yX2_mixedWithFable, Cond.selects RX2 yX2_mixedWithFable yX2_mixedWithFable, Cond.code yX2_mixedWithFable cX2_mixedWithFable 7 (some .long), Cond.methodLink RX2 197 yX2_moralOf, Cond.methodLink RX2 200 yX2_beastsOf, Cond.methodLink RX2 203 yX2_homeOf, Cond.methodLink RX2 206 yX2_parentOf, Cond.methodLink RX2 209 yX2_variantsOf, Cond.methodLink RX2 212 yX2_valleysOf, Cond.methodLink RX2 215 yX2_hasBeast, Cond.methodLink RX2 218 yX2_isTold, Cond.methodLink RX2 221 yX2_isBanned, Cond.methodLink RX2 194 yX2_mixedWithValley, Cond.instanceMethod yX2_mixedWithValley, Cond.selects RX2 yX2_mixedWithValley yX2_mixedWithValley, Cond.code yX2_mixedWithValley cX2_mixedWithValley 7 (some .long), Cond.methodLink RX2 224 yX2_toldIn, Cond.methodLink RX2 227 yX2_allowedIn, Cond.methodLink RX2 230 yX2_bansOf]
def wsL_law0_r31 : List Cond := [Cond.methodLink RX2 233 yX2_isOpen, Cond.methodLink RL 247 yX3_digest, Cond.instanceMethod yX3_digest, Cond.selects RX3 yX3_digest yX3_digest, Cond.code yX3_digest cX3_digest 10 (some .long), Cond.constantLong RX3 142 (1861), Cond.constantLong RX3 144 (31), Cond.methodLink RX3 146 yX3_one, Cond.static yX3_one, Cond.code yX3_one cX3_one 1 (some .int)]
def wsL_law0 : List Cond := (wsL_law0_r1 ++ (wsL_law0_r2 ++ (wsL_law0_r3 ++ (wsL_law0_r4 ++ (wsL_law0_r5 ++ (wsL_law0_r6 ++ (wsL_law0_r7 ++ (wsL_law0_r8 ++ (wsL_law0_r9 ++ (wsL_law0_r10 ++ (wsL_law0_r11 ++ (wsL_law0_r12 ++ (wsL_law0_r13 ++ (wsL_law0_r14 ++ (wsL_law0_r15 ++ (wsL_law0_r16 ++ (wsL_law0_r17 ++ (wsL_law0_r18 ++ (wsL_law0_r19 ++ (wsL_law0_r20 ++ (wsL_law0_r21 ++ (wsL_law0_r22 ++ (wsL_law0_r23 ++ (wsL_law0_r24 ++ (wsL_law0_r25 ++ (wsL_law0_r26 ++ (wsL_law0_r27 ++ (wsL_law0_r28 ++ (wsL_law0_r29 ++ (wsL_law0_r30 ++ wsL_law0_r31)))))))))))))))))))))))))))))) ++ wsX20 ++ wsX30 ++ wsX00 ++ wsX10 ++ ([] : List Cond)
abbrev vwCl : List vw_C := [(RX0, TX0, 7), (RX1, TX1, 7), (RX2, TX2, 4), (RX3, TX3, 14)]
end
section

section ZLIB
variable {p : Program} {l : Launch} {e : Env} {R : Room} {s : State} {m : MethodId} {args : Array Value} {below : List Frame} {meth : Method} {c : Code} {D : va_G} {nL : Nat} {G A : Nat → Prop} {Q : State → Prop} {ws : va_W} {lv : List (Nat × Value)} {cells slots pc : Nat} {st : List Value} {cc : ByteArray} {ret : Option FieldType} {Ts : List Cond} {own : String} {tys : List (ClassId × FieldType)}
/-- what holds at a method's start, beside its own cells: the classes, the text constants and words that aren't a method's own, the statics of Throwable -/
def z_nests : List (String × Nat × MethodName × String) := [("FableIndex$Land", 57, ⟨"FableIndex", "size", "(I)I"⟩, "FableIndex"), ("FableIndex$Book", 34, ⟨"FableIndex", "has", "(II)Z"⟩, "FableIndex"), ("FableIndex$Land", 43, ⟨"FableIndex", "has", "(II)Z"⟩, "FableIndex"), ("FableIndex$Land", 34, ⟨"FableIndex", "turned", "(II)I"⟩, "FableIndex"), ("FableIndex$Land", 82, ⟨"FableIndex", "smallestAlone", "(I)I"⟩, "FableIndex")]
def z_IOB : String := "java/lang/IndexOutOfBoundsException"
def z_ISE : String := "java/lang/IllegalStateException"
def z_IAE : String := "java/lang/IllegalArgumentException"
def z_casts : List (String × String) := [("java/lang/IndexOutOfBoundsException", "java/lang/IndexOutOfBoundsException"), ("java/lang/IllegalStateException", "java/lang/IllegalStateException"), ("java/lang/IllegalArgumentException", "java/lang/IllegalArgumentException")]
def z_ncs : List (String × String) := [("java/lang/IllegalStateException", "java/lang/IndexOutOfBoundsException"), ("java/lang/IllegalArgumentException", "java/lang/IndexOutOfBoundsException"), ("java/lang/IndexOutOfBoundsException", "java/lang/IllegalStateException"), ("java/lang/IndexOutOfBoundsException", "java/lang/IllegalArgumentException")]
def z_strs : List (Nat × String) := [(240, "no such fable"), (247, "no such beast"), (249, "no such valley"), (245, "no such moral"), (243, "there are 20 fables"), (60, "the fable has this beast"), (68, "the fable has a variant"), (74, "the fable has not the beast that goes"), (76, "the fable has the beast that comes"), (87, "a pass lies between two valleys"), (106, "the fable is told there"), (112, "the fable is banned there"), (117, "the fable is not told there"), (251, "too few seasons or too many")]
def z_decls : List MethodName := [⟨"java/lang/RuntimeException", "<init>", "(Ljava/lang/String;)V"⟩, ⟨"java/lang/Exception", "<init>", "(Ljava/lang/String;)V"⟩, ⟨"java/lang/Throwable", "<init>", "(Ljava/lang/String;)V"⟩]
def z_E (l : Launch) (G : Nat → Prop) (D : va_G) (tys : List (ClassId × FieldType)) (U : State) : Prop :=
  va_K D vwCl tys U ∧ l.stackTraces = false ∧ (∀ q : Nat, U.heap.size ≤ q → G q) ∧ (∀ q ∈ z_nests, va_Nw (.methodLinkNest q.1 q.2.1 q.2.2.1 q.2.2.2) U) ∧ ((∀ q ∈ z_casts, va_Nw (.castable q.1 q.2) U) ∧ ∀ q ∈ z_decls, va_Nw (.declares q) U) ∧ (∀ q ∈ z_ncs, va_Nc q.1 q.2 U) ∧ (∀ q ∈ z_strs, ∃ sa, vk_R "FableIndex" q.1 q.2 sa U) ∧
  vx_Zq Bundle.tN "UNASSIGNED_STACK" Bundle.steD G U U.heap ∧ vx_Zq Bundle.tN "SUPPRESSED_SENTINEL" Bundle.listD G U U.heap
theorem z_E.step {U t : State} (h : z_E l G D tys U) (hW : U.WarmedH t.vm) (hsz : U.heap.size ≤ t.heap.size) (hk : ∀ q, q < U.heap.size → ¬ G q → t.heap[q]? = U.heap[q]?) : z_E l G D tys t := by
  obtain ⟨h1, h0, h2, h3, h4, h5, h6, h7, h8⟩ := h
  exact ⟨va_K.moved hW.alike h1, h0, fun q hq => h2 q (Nat.le_trans hsz hq), fun q hq => va_Nw.warmM hW (h3 q hq), ⟨fun q hq => va_Nw.warmC hW (h4.1 q hq), fun q hq => va_Nw.warmD hW (h4.2 q hq)⟩, fun q hq => va_Nc.moved hW.alike (h5 q hq), fun q hq => (h6 q hq).elim (fun sa h => ⟨sa, vk_R.warm hW h⟩), vx_Zq.moved hW.alike (h7.kept hk), vx_Zq.moved hW.alike (h8.kept hk)⟩
theorem z_E.calling {U : State} (h : z_E l G D tys U) (g : JFrame) (mk : MethodId) (a : Array Value) : z_E l G D tys (U.calling g mk a) := h.step (State.WarmedH.refl U) (Nat.le_refl _) (fun _ _ _ => rfl)
/-- the machine, the method and its words, the classes: what stays all through a method -/
def z_K (p : Program) (l : Launch) (s : State) (m : MethodId) (args : Array Value) (meth : Method) (c : Code) (G A : Nat → Prop) (D : va_G) (tys : List (ClassId × FieldType)) (cc : ByteArray) (nL : Nat) (ret : Option FieldType) (Ts : List Cond) (own : String) : Prop :=
  p.tables.exec = Jvm.exec ∧ c.code = cc ∧ c.maxLocals = nL ∧ s.vm.findClass own = some m.cls ∧ (∀ w ∈ Ts, w.before args s = true) ∧ va_K D vwCl tys s ∧ meth.sig.returnType = ret ∧ meth.locks = false ∧ z_E l G D tys s ∧ (∀ q, A q → G q) ∧ (∀ q : Nat, s.heap.size ≤ q → A q)
/-- the machine comes to Q from every heap that holds the cells ws, at pc, with locals lv and stack st -/
def Z (p : Program) (l : Launch) (e : Env) (R : Room) (s : State) (m : MethodId) (args : Array Value) (below : List Frame) (meth : Method) (c : Code) (D : va_G) (nL : Nat) (G A : Nat → Prop) (Q : State → Prop) (ws : va_W) (lv : List (Nat × Value)) (cells slots pc : Nat) (st : List Value) : Prop :=
  ∀ (H : Heap) (locs : List Loc) (ls : Array Slot), va_P D vwCl ws H → va_D G ws → va_S A s.heap H locs → lv_has ls nL lv → W p l e R s m args below meth c H locs cells slots Q (F0 m pc ls st)
/-- the same, with q thrown over the frame -/
def ZX (p : Program) (l : Launch) (e : Env) (R : Room) (s : State) (m : MethodId) (args : Array Value) (below : List Frame) (meth : Method) (c : Code) (D : va_G) (nL : Nat) (G A : Nat → Prop) (Q : State → Prop) (ws : va_W) (lv : List (Nat × Value)) (cells slots pc : Nat) (E : String) : Prop :=
  ∀ (H : Heap) (locs : List Loc) (ls : Array Slot) (rest : List Value) (q : Addr) (ce : Cell), va_P D vwCl ws H → va_D G ws → va_S A s.heap H locs → lv_has ls nL lv → H[q]? = some ce → ce.vm = .none → s.vm.findClass E = some ce.cls → vx_W p l e R s m args below meth c H locs cells slots Q (F0 m pc ls rest) q
theorem z_lv {lv' : List (Nat × Value)} (ks : List Nat) (h : lv_pick lv ks = lv') (k : Z p l e R s m args below meth c D nL G A Q ws lv' cells slots pc st) : Z p l e R s m args below meth c D nL G A Q ws lv cells slots pc st := fun H locs ls hP hD hS hl => k H locs ls hP hD hS (lv_sub hl ks h)
theorem z_widen {k n : Nat} (h1 : cells ≤ k) (h2 : slots ≤ n) (kk : Z p l e R s m args below meth c D nL G A Q ws lv k n pc st) : Z p l e R s m args below meth c D nL G A Q ws lv cells slots pc st := fun H locs ls hP hD hS hl => W.widen h1 h2 (kk H locs ls hP hD hS hl)
theorem z_sub {ws' : va_W} (is : List Nat) (hn : va_nd is = true) (h : is.map (fun i => ws[i]?) = ws'.map some) (k : Z p l e R s m args below meth c D nL G A Q ws' lv cells slots pc st) : Z p l e R s m args below meth c D nL G A Q ws lv cells slots pc st := fun H locs ls hP hD hS hl => k H locs ls (hP.sub is (by
  have : is.filterMap (fun i => ws[i]?) = (is.map (fun i => ws[i]?)).filterMap id := by rw [List.filterMap_map]; rfl
  rw [this, h, List.filterMap_map]; exact List.filterMap_some)) (hD.sub is hn h) hS hl

theorem z_iconst (K : z_K p l s m args meth c G A D tys cc nL ret Ts own) {n : Int} {v : Int32} (hdg : decode cc pc = .ok (.iconst n, 1)) (hv : Int32.ofInt n = v) (kk : Z p l e R s m args below meth c D nL G A Q ws lv cells slots (pc + 1) (.int v :: st)) : Z p l e R s m args below meth c D nL G A Q ws lv cells slots pc st := fun H locs ls hP hD hS hl => lv_iconst K.1 K.2.1 hdg hv (kk H locs ls hP hD hS hl)
theorem z_bipush (K : z_K p l s m args meth c G A D tys cc nL ret Ts own) {n : Int} {v : Int32} (hdg : decode cc pc = .ok (.bipush n, 2)) (hv : (Int8.ofInt n).toInt32 = v) (kk : Z p l e R s m args below meth c D nL G A Q ws lv cells slots (pc + 2) (.int v :: st)) : Z p l e R s m args below meth c D nL G A Q ws lv cells slots pc st := fun H locs ls hP hD hS hl => lv_bipush K.1 K.2.1 hdg hv (kk H locs ls hP hD hS hl)
theorem z_lconst (K : z_K p l s m args meth c G A D tys cc nL ret Ts own) {n : Fin 2} {v : Int64} (hdg : decode cc pc = .ok (.lconst n, 1)) (hv : Int64.ofNat (n : Nat) = v) (kk : Z p l e R s m args below meth c D nL G A Q ws lv cells slots (pc + 1) (.long v :: st)) : Z p l e R s m args below meth c D nL G A Q ws lv cells slots pc st := fun H locs ls hP hD hS hl => lv_lconst K.1 K.2.1 hdg hv (kk H locs ls hP hD hS hl)
theorem z_ldc (K : z_K p l s m args meth c G A D tys cc nL ret Ts own) {index : Nat} {v : Int32} (hdg : decode cc pc = .ok (.ldc index, 2)) (hw : Cond.constant own index v ∈ Ts) (kk : Z p l e R s m args below meth c D nL G A Q ws lv cells slots (pc + 2) (.int v :: st)) : Z p l e R s m args below meth c D nL G A Q ws lv cells slots pc st := fun H locs ls hP hD hS hl => lv_ldc K.1 K.2.1 K.2.2.2.1 (K.2.2.2.2.1 _ hw) hdg (kk H locs ls hP hD hS hl)
theorem z_ldc2 (K : z_K p l s m args meth c G A D tys cc nL ret Ts own) {index : Nat} {v : Int64} (hdg : decode cc pc = .ok (.ldc2_w index, 3)) (hw : Cond.constantLong own index v ∈ Ts) (kk : Z p l e R s m args below meth c D nL G A Q ws lv cells slots (pc + 3) (.long v :: st)) : Z p l e R s m args below meth c D nL G A Q ws lv cells slots pc st := fun H locs ls hP hD hS hl => lv_ldc2 K.1 K.2.1 K.2.2.2.1 (K.2.2.2.2.1 _ hw) hdg (kk H locs ls hP hD hS hl)
theorem z_iload_n (K : z_K p l s m args meth c G A D tys cc nL ret Ts own) (j : Nat) {k : Fin 4} {x : Int32} (hdg : decode cc pc = .ok (.iload_n k, 1)) (hv : lv[j]? = some ((k : Nat), .int x)) (kk : Z p l e R s m args below meth c D nL G A Q ws lv cells slots (pc + 1) (.int x :: st)) : Z p l e R s m args below meth c D nL G A Q ws lv cells slots pc st := fun H locs ls hP hD hS hl => lv_iload_n K.1 K.2.1 hdg rfl (lv_at hl j hv) (kk H locs ls hP hD hS hl)
theorem z_iload (K : z_K p l s m args meth c G A D tys cc nL ret Ts own) (j : Nat) {i : Nat} {x : Int32} (hdg : decode cc pc = .ok (.iload i, 2)) (hv : lv[j]? = some (i, .int x)) (kk : Z p l e R s m args below meth c D nL G A Q ws lv cells slots (pc + 2) (.int x :: st)) : Z p l e R s m args below meth c D nL G A Q ws lv cells slots pc st := fun H locs ls hP hD hS hl => lv_iload K.1 K.2.1 hdg (lv_at hl j hv) (kk H locs ls hP hD hS hl)
theorem z_lload_n (K : z_K p l s m args meth c G A D tys cc nL ret Ts own) (j : Nat) {k : Fin 4} {x : Int64} (hdg : decode cc pc = .ok (.lload_n k, 1)) (hv : lv[j]? = some ((k : Nat), .long x)) (kk : Z p l e R s m args below meth c D nL G A Q ws lv cells slots (pc + 1) (.long x :: st)) : Z p l e R s m args below meth c D nL G A Q ws lv cells slots pc st := fun H locs ls hP hD hS hl => lv_lload_n K.1 K.2.1 hdg rfl (lv_at hl j hv) (kk H locs ls hP hD hS hl)
theorem z_lload (K : z_K p l s m args meth c G A D tys cc nL ret Ts own) (j : Nat) {i : Nat} {x : Int64} (hdg : decode cc pc = .ok (.lload i, 2)) (hv : lv[j]? = some (i, .long x)) (kk : Z p l e R s m args below meth c D nL G A Q ws lv cells slots (pc + 2) (.long x :: st)) : Z p l e R s m args below meth c D nL G A Q ws lv cells slots pc st := fun H locs ls hP hD hS hl => lv_lload K.1 K.2.1 hdg (lv_at hl j hv) (kk H locs ls hP hD hS hl)
theorem z_dload_n (K : z_K p l s m args meth c G A D tys cc nL ret Ts own) (j : Nat) {k : Fin 4} {x : UInt64} (hdg : decode cc pc = .ok (.dload_n k, 1)) (hv : lv[j]? = some ((k : Nat), .double x)) (kk : Z p l e R s m args below meth c D nL G A Q ws lv cells slots (pc + 1) (.double x :: st)) : Z p l e R s m args below meth c D nL G A Q ws lv cells slots pc st := fun H locs ls hP hD hS hl => lv_dload_n K.1 K.2.1 hdg rfl (lv_at hl j hv) (kk H locs ls hP hD hS hl)
theorem z_dload (K : z_K p l s m args meth c G A D tys cc nL ret Ts own) (j : Nat) {i : Nat} {x : UInt64} (hdg : decode cc pc = .ok (.dload i, 2)) (hv : lv[j]? = some (i, .double x)) (kk : Z p l e R s m args below meth c D nL G A Q ws lv cells slots (pc + 2) (.double x :: st)) : Z p l e R s m args below meth c D nL G A Q ws lv cells slots pc st := fun H locs ls hP hD hS hl => lv_dload K.1 K.2.1 hdg (lv_at hl j hv) (kk H locs ls hP hD hS hl)
theorem z_aload_n (K : z_K p l s m args meth c G A D tys cc nL ret Ts own) (j : Nat) {k : Fin 4} {x : Nat} (hdg : decode cc pc = .ok (.aload_n k, 1)) (hv : lv[j]? = some ((k : Nat), .ref x)) (kk : Z p l e R s m args below meth c D nL G A Q ws lv cells slots (pc + 1) (.ref x :: st)) : Z p l e R s m args below meth c D nL G A Q ws lv cells slots pc st := fun H locs ls hP hD hS hl => lv_aload_n K.1 K.2.1 hdg rfl (lv_at hl j hv) (kk H locs ls hP hD hS hl)
theorem z_aload (K : z_K p l s m args meth c G A D tys cc nL ret Ts own) (j : Nat) {i : Nat} {x : Nat} (hdg : decode cc pc = .ok (.aload i, 2)) (hv : lv[j]? = some (i, .ref x)) (kk : Z p l e R s m args below meth c D nL G A Q ws lv cells slots (pc + 2) (.ref x :: st)) : Z p l e R s m args below meth c D nL G A Q ws lv cells slots pc st := fun H locs ls hP hD hS hl => lv_aload K.1 K.2.1 hdg (lv_at hl j hv) (kk H locs ls hP hD hS hl)
theorem z_istore_n (K : z_K p l s m args meth c G A D tys cc nL ret Ts own) {k : Fin 4} {x : Int32} {lv' : List (Nat × Value)} (hdg : decode cc pc = .ok (.istore_n k, 1)) (hn : (k : Nat) < nL) (hf : ((k : Nat), Value.int x) :: lv.filter (fun q => !(q.1 == (k : Nat)) && !(q.1 + 1 == (k : Nat) && q.2.category == 2)) = lv') (kk : Z p l e R s m args below meth c D nL G A Q ws lv' cells slots (pc + 1) st) : Z p l e R s m args below meth c D nL G A Q ws lv cells slots pc (.int x :: st) := fun H locs ls hP hD hS hl => lv_istore_n K.1 K.2.1 hdg rfl hl hn hf (fun ls9 h9 => kk H locs ls9 hP hD hS h9)
theorem z_istore (K : z_K p l s m args meth c G A D tys cc nL ret Ts own) {i : Nat} {x : Int32} {lv' : List (Nat × Value)} (hdg : decode cc pc = .ok (.istore i, 2)) (hn : i < nL) (hf : (i, Value.int x) :: lv.filter (fun q => !(q.1 == i) && !(q.1 + 1 == i && q.2.category == 2)) = lv') (kk : Z p l e R s m args below meth c D nL G A Q ws lv' cells slots (pc + 2) st) : Z p l e R s m args below meth c D nL G A Q ws lv cells slots pc (.int x :: st) := fun H locs ls hP hD hS hl => lv_istore K.1 K.2.1 hdg hl hn hf (fun ls9 h9 => kk H locs ls9 hP hD hS h9)
theorem z_lstore_n (K : z_K p l s m args meth c G A D tys cc nL ret Ts own) {k : Fin 4} {x : Int64} {lv' : List (Nat × Value)} (hdg : decode cc pc = .ok (.lstore_n k, 1)) (hn : (k : Nat) + 1 < nL) (hf : ((k : Nat), Value.long x) :: lv.filter (fun q => !(q.1 == (k : Nat)) && (!(q.1 == (k : Nat) + 1) && !(q.1 + 1 == (k : Nat) && q.2.category == 2))) = lv') (kk : Z p l e R s m args below meth c D nL G A Q ws lv' cells slots (pc + 1) st) : Z p l e R s m args below meth c D nL G A Q ws lv cells slots pc (.long x :: st) := fun H locs ls hP hD hS hl => lv_lstore_n K.1 K.2.1 hdg rfl hl hn hf (fun ls9 h9 => kk H locs ls9 hP hD hS h9)
theorem z_lstore (K : z_K p l s m args meth c G A D tys cc nL ret Ts own) {i : Nat} {x : Int64} {lv' : List (Nat × Value)} (hdg : decode cc pc = .ok (.lstore i, 2)) (hn : i + 1 < nL) (hf : (i, Value.long x) :: lv.filter (fun q => !(q.1 == i) && (!(q.1 == i + 1) && !(q.1 + 1 == i && q.2.category == 2))) = lv') (kk : Z p l e R s m args below meth c D nL G A Q ws lv' cells slots (pc + 2) st) : Z p l e R s m args below meth c D nL G A Q ws lv cells slots pc (.long x :: st) := fun H locs ls hP hD hS hl => lv_lstore K.1 K.2.1 hdg hl hn hf (fun ls9 h9 => kk H locs ls9 hP hD hS h9)
theorem z_dstore_n (K : z_K p l s m args meth c G A D tys cc nL ret Ts own) {k : Fin 4} {x : UInt64} {lv' : List (Nat × Value)} (hdg : decode cc pc = .ok (.dstore_n k, 1)) (hn : (k : Nat) + 1 < nL) (hf : ((k : Nat), Value.double x) :: lv.filter (fun q => !(q.1 == (k : Nat)) && (!(q.1 == (k : Nat) + 1) && !(q.1 + 1 == (k : Nat) && q.2.category == 2))) = lv') (kk : Z p l e R s m args below meth c D nL G A Q ws lv' cells slots (pc + 1) st) : Z p l e R s m args below meth c D nL G A Q ws lv cells slots pc (.double x :: st) := fun H locs ls hP hD hS hl => lv_dstore_n K.1 K.2.1 hdg rfl hl hn hf (fun ls9 h9 => kk H locs ls9 hP hD hS h9)
theorem z_dstore (K : z_K p l s m args meth c G A D tys cc nL ret Ts own) {i : Nat} {x : UInt64} {lv' : List (Nat × Value)} (hdg : decode cc pc = .ok (.dstore i, 2)) (hn : i + 1 < nL) (hf : (i, Value.double x) :: lv.filter (fun q => !(q.1 == i) && (!(q.1 == i + 1) && !(q.1 + 1 == i && q.2.category == 2))) = lv') (kk : Z p l e R s m args below meth c D nL G A Q ws lv' cells slots (pc + 2) st) : Z p l e R s m args below meth c D nL G A Q ws lv cells slots pc (.double x :: st) := fun H locs ls hP hD hS hl => lv_dstore K.1 K.2.1 hdg hl hn hf (fun ls9 h9 => kk H locs ls9 hP hD hS h9)
theorem z_astore_n (K : z_K p l s m args meth c G A D tys cc nL ret Ts own) {k : Fin 4} {x : Nat} {lv' : List (Nat × Value)} (hdg : decode cc pc = .ok (.astore_n k, 1)) (hn : (k : Nat) < nL) (hf : ((k : Nat), Value.ref x) :: lv.filter (fun q => !(q.1 == (k : Nat)) && !(q.1 + 1 == (k : Nat) && q.2.category == 2)) = lv') (kk : Z p l e R s m args below meth c D nL G A Q ws lv' cells slots (pc + 1) st) : Z p l e R s m args below meth c D nL G A Q ws lv cells slots pc (.ref x :: st) := fun H locs ls hP hD hS hl => lv_astore_n K.1 K.2.1 hdg rfl hl hn hf (fun ls9 h9 => kk H locs ls9 hP hD hS h9)
theorem z_astore (K : z_K p l s m args meth c G A D tys cc nL ret Ts own) {i : Nat} {x : Nat} {lv' : List (Nat × Value)} (hdg : decode cc pc = .ok (.astore i, 2)) (hn : i < nL) (hf : (i, Value.ref x) :: lv.filter (fun q => !(q.1 == i) && !(q.1 + 1 == i && q.2.category == 2)) = lv') (kk : Z p l e R s m args below meth c D nL G A Q ws lv' cells slots (pc + 2) st) : Z p l e R s m args below meth c D nL G A Q ws lv cells slots pc (.ref x :: st) := fun H locs ls hP hD hS hl => lv_astore K.1 K.2.1 hdg hl hn hf (fun ls9 h9 => kk H locs ls9 hP hD hS h9)
theorem z_iinc (K : z_K p l s m args meth c G A D tys cc nL ret Ts own) (j : Nat) {i : Nat} {n : Int} {x v : Int32} {lv' : List (Nat × Value)} (hdg : decode cc pc = .ok (.iinc i n, 3)) (hv : lv[j]? = some (i, .int x)) (hx : x + Int32.ofInt n = v) (hn : i < nL) (hf : (i, Value.int v) :: lv.filter (fun q => !(q.1 == i) && !(q.1 + 1 == i && q.2.category == 2)) = lv') (kk : Z p l e R s m args below meth c D nL G A Q ws lv' cells slots (pc + 3) st) : Z p l e R s m args below meth c D nL G A Q ws lv cells slots pc st := fun H locs ls hP hD hS hl => lv_iinc K.1 K.2.1 hdg hl (k := j) hv hx hn hf (fun ls9 h9 => kk H locs ls9 hP hD hS h9)
theorem z_iadd (K : z_K p l s m args meth c G A D tys cc nL ret Ts own) {x y : Int32} (hdg : decode cc pc = .ok (.iadd, 1)) (kk : Z p l e R s m args below meth c D nL G A Q ws lv cells slots (pc + 1) (.int (x + y) :: st)) : Z p l e R s m args below meth c D nL G A Q ws lv cells slots pc (.int y :: .int x :: st) := fun H locs ls hP hD hS hl => lv_iadd K.1 K.2.1 hdg (kk H locs ls hP hD hS hl)
theorem z_isub (K : z_K p l s m args meth c G A D tys cc nL ret Ts own) {x y : Int32} (hdg : decode cc pc = .ok (.isub, 1)) (kk : Z p l e R s m args below meth c D nL G A Q ws lv cells slots (pc + 1) (.int (x - y) :: st)) : Z p l e R s m args below meth c D nL G A Q ws lv cells slots pc (.int y :: .int x :: st) := fun H locs ls hP hD hS hl => lv_isub K.1 K.2.1 hdg (kk H locs ls hP hD hS hl)
theorem z_imul (K : z_K p l s m args meth c G A D tys cc nL ret Ts own) {x y : Int32} (hdg : decode cc pc = .ok (.imul, 1)) (kk : Z p l e R s m args below meth c D nL G A Q ws lv cells slots (pc + 1) (.int (x * y) :: st)) : Z p l e R s m args below meth c D nL G A Q ws lv cells slots pc (.int y :: .int x :: st) := fun H locs ls hP hD hS hl => lv_imul K.1 K.2.1 hdg (kk H locs ls hP hD hS hl)
theorem z_ior (K : z_K p l s m args meth c G A D tys cc nL ret Ts own) {x y : Int32} (hdg : decode cc pc = .ok (.ior, 1)) (kk : Z p l e R s m args below meth c D nL G A Q ws lv cells slots (pc + 1) (.int (x ||| y) :: st)) : Z p l e R s m args below meth c D nL G A Q ws lv cells slots pc (.int y :: .int x :: st) := fun H locs ls hP hD hS hl => lv_ior K.1 K.2.1 hdg (kk H locs ls hP hD hS hl)
theorem z_iand (K : z_K p l s m args meth c G A D tys cc nL ret Ts own) {x y : Int32} (hdg : decode cc pc = .ok (.iand, 1)) (kk : Z p l e R s m args below meth c D nL G A Q ws lv cells slots (pc + 1) (.int (x &&& y) :: st)) : Z p l e R s m args below meth c D nL G A Q ws lv cells slots pc (.int y :: .int x :: st) := fun H locs ls hP hD hS hl => lv_iand K.1 K.2.1 hdg (kk H locs ls hP hD hS hl)
theorem z_ixor (K : z_K p l s m args meth c G A D tys cc nL ret Ts own) {x y : Int32} (hdg : decode cc pc = .ok (.ixor, 1)) (kk : Z p l e R s m args below meth c D nL G A Q ws lv cells slots (pc + 1) (.int (x ^^^ y) :: st)) : Z p l e R s m args below meth c D nL G A Q ws lv cells slots pc (.int y :: .int x :: st) := fun H locs ls hP hD hS hl => lv_ixor K.1 K.2.1 hdg (kk H locs ls hP hD hS hl)
theorem z_ishl (K : z_K p l s m args meth c G A D tys cc nL ret Ts own) {x y : Int32} (hdg : decode cc pc = .ok (.ishl, 1)) (kk : Z p l e R s m args below meth c D nL G A Q ws lv cells slots (pc + 1) (.int (x <<< (y &&& 31)) :: st)) : Z p l e R s m args below meth c D nL G A Q ws lv cells slots pc (.int y :: .int x :: st) := fun H locs ls hP hD hS hl => lv_ishl K.1 K.2.1 hdg (kk H locs ls hP hD hS hl)
theorem z_ishr (K : z_K p l s m args meth c G A D tys cc nL ret Ts own) {x y : Int32} (hdg : decode cc pc = .ok (.ishr, 1)) (kk : Z p l e R s m args below meth c D nL G A Q ws lv cells slots (pc + 1) (.int (x >>> (y &&& 31)) :: st)) : Z p l e R s m args below meth c D nL G A Q ws lv cells slots pc (.int y :: .int x :: st) := fun H locs ls hP hD hS hl => lv_ishr K.1 K.2.1 hdg (kk H locs ls hP hD hS hl)
theorem z_iushr (K : z_K p l s m args meth c G A D tys cc nL ret Ts own) {x y v : Int32} (hdg : decode cc pc = .ok (.iushr, 1)) (hv : (x.toUInt32 >>> (y.toUInt32 &&& Int32.toUInt32 31)).toInt32 = v) (kk : Z p l e R s m args below meth c D nL G A Q ws lv cells slots (pc + 1) (.int v :: st)) : Z p l e R s m args below meth c D nL G A Q ws lv cells slots pc (.int y :: .int x :: st) := fun H locs ls hP hD hS hl => lv_iushr K.1 K.2.1 hdg hv (kk H locs ls hP hD hS hl)
theorem z_ineg (K : z_K p l s m args meth c G A D tys cc nL ret Ts own) {x : Int32} (hdg : decode cc pc = .ok (.ineg, 1)) (kk : Z p l e R s m args below meth c D nL G A Q ws lv cells slots (pc + 1) (.int (-x) :: st)) : Z p l e R s m args below meth c D nL G A Q ws lv cells slots pc (.int x :: st) := fun H locs ls hP hD hS hl => lv_ineg K.1 K.2.1 hdg (kk H locs ls hP hD hS hl)
theorem z_ladd (K : z_K p l s m args meth c G A D tys cc nL ret Ts own) {x y : Int64} (hdg : decode cc pc = .ok (.ladd, 1)) (kk : Z p l e R s m args below meth c D nL G A Q ws lv cells slots (pc + 1) (.long (x + y) :: st)) : Z p l e R s m args below meth c D nL G A Q ws lv cells slots pc (.long y :: .long x :: st) := fun H locs ls hP hD hS hl => lv_ladd K.1 K.2.1 hdg (kk H locs ls hP hD hS hl)
theorem z_lmul (K : z_K p l s m args meth c G A D tys cc nL ret Ts own) {x y : Int64} (hdg : decode cc pc = .ok (.lmul, 1)) (kk : Z p l e R s m args below meth c D nL G A Q ws lv cells slots (pc + 1) (.long (x * y) :: st)) : Z p l e R s m args below meth c D nL G A Q ws lv cells slots pc (.long y :: .long x :: st) := fun H locs ls hP hD hS hl => lv_lmul K.1 K.2.1 hdg (kk H locs ls hP hD hS hl)
theorem z_i2l (K : z_K p l s m args meth c G A D tys cc nL ret Ts own) {x : Int32} (hdg : decode cc pc = .ok (.i2l, 1)) (kk : Z p l e R s m args below meth c D nL G A Q ws lv cells slots (pc + 1) (.long x.toInt64 :: st)) : Z p l e R s m args below meth c D nL G A Q ws lv cells slots pc (.int x :: st) := fun H locs ls hP hD hS hl => lv_i2l K.1 K.2.1 hdg rfl (kk H locs ls hP hD hS hl)
theorem z_i2d (K : z_K p l s m args meth c G A D tys cc nL ret Ts own) {x : Int32} (hdg : decode cc pc = .ok (.i2d, 1)) (kk : Z p l e R s m args below meth c D nL G A Q ws lv cells slots (pc + 1) (.double (FP.i2d x) :: st)) : Z p l e R s m args below meth c D nL G A Q ws lv cells slots pc (.int x :: st) := fun H locs ls hP hD hS hl => lv_i2d K.1 K.2.1 hdg (kk H locs ls hP hD hS hl)
theorem z_ddiv (K : z_K p l s m args meth c G A D tys cc nL ret Ts own) {x y : UInt64} (hdg : decode cc pc = .ok (.ddiv, 1)) (hne : vf_n64 (FP.ddiv x y)) (kk : Z p l e R s m args below meth c D nL G A Q ws lv cells slots (pc + 1) (.double (FP.ddiv x y) :: st)) : Z p l e R s m args below meth c D nL G A Q ws lv cells slots pc (.double y :: .double x :: st) := fun H locs ls hP hD hS hl => lv_ddiv K.1 K.2.1 hdg hne (kk H locs ls hP hD hS hl)
theorem z_lcmp (K : z_K p l s m args meth c G A D tys cc nL ret Ts own) {x y : Int64} (hdg : decode cc pc = .ok (.lcmp, 1)) (kk : Z p l e R s m args below meth c D nL G A Q ws lv cells slots (pc + 1) (.int (lg_cmp x y) :: st)) : Z p l e R s m args below meth c D nL G A Q ws lv cells slots pc (.long y :: .long x :: st) := fun H locs ls hP hD hS hl => W.lcmp K.1 K.2.1 hdg (kk H locs ls hP hD hS hl)
theorem z_dcmp (K : z_K p l s m args meth c G A D tys cc nL ret Ts own) {x y : UInt64} {op : CmpOp} (hdg : decode cc pc = .ok (.dcmp op, 1)) (kk : Z p l e R s m args below meth c D nL G A Q ws lv cells slots (pc + 1) (.int (Op.cmpValue (FP.dcmp x y) op) :: st)) : Z p l e R s m args below meth c D nL G A Q ws lv cells slots pc (.double y :: .double x :: st) := fun H locs ls hP hD hS hl => lv_dcmp K.1 K.2.1 hdg (kk H locs ls hP hD hS hl)
theorem z_dup (K : z_K p l s m args meth c G A D tys cc nL ret Ts own) {va : Value} (hdg : decode cc pc = .ok (.dup, 1)) (hva : va.category = 1) (kk : Z p l e R s m args below meth c D nL G A Q ws lv cells slots (pc + 1) (va :: va :: st)) : Z p l e R s m args below meth c D nL G A Q ws lv cells slots pc (va :: st) := fun H locs ls hP hD hS hl => lv_dup K.1 K.2.1 hdg hva (kk H locs ls hP hD hS hl)
theorem z_pop (K : z_K p l s m args meth c G A D tys cc nL ret Ts own) {va : Value} (hdg : decode cc pc = .ok (.pop, 1)) (hva : va.category = 1) (kk : Z p l e R s m args below meth c D nL G A Q ws lv cells slots (pc + 1) st) : Z p l e R s m args below meth c D nL G A Q ws lv cells slots pc (va :: st) := fun H locs ls hP hD hS hl => lv_pop K.1 K.2.1 hdg hva (kk H locs ls hP hD hS hl)
theorem z_goto (K : z_K p l s m args meth c G A D tys cc nL ret Ts own) {off : Int} (tgt : Nat) (hdg : decode cc pc = .ok (.goto off, 3)) (ht : (pc : Int) + off = (tgt : Int)) (kk : Z p l e R s m args below meth c D nL G A Q ws lv cells slots tgt st) : Z p l e R s m args below meth c D nL G A Q ws lv cells slots pc st := fun H locs ls hP hD hS hl => lv_goto K.1 K.2.1 hdg ht (kk H locs ls hP hD hS hl)
theorem z_if_eq (K : z_K p l s m args meth c G A D tys cc nL ret Ts own) {off : Int} {x : Int32} (tgt : Nat) (hdg : decode cc pc = .ok (.ifCond .eq off, 3)) (ht : (pc : Int) + off = (tgt : Int)) (kt : x = 0 → Z p l e R s m args below meth c D nL G A Q ws lv cells slots tgt st) (kf : ¬ x = 0 → Z p l e R s m args below meth c D nL G A Q ws lv cells slots (pc + 3) st) : Z p l e R s m args below meth c D nL G A Q ws lv cells slots pc (.int x :: st) := fun H locs ls hP hD hS hl => lv_if_eq K.1 K.2.1 hdg ht (fun h => kt h H locs ls hP hD hS hl) (fun h => kf h H locs ls hP hD hS hl)
theorem z_if_ne (K : z_K p l s m args meth c G A D tys cc nL ret Ts own) {off : Int} {x : Int32} (tgt : Nat) (hdg : decode cc pc = .ok (.ifCond .ne off, 3)) (ht : (pc : Int) + off = (tgt : Int)) (kt : ¬ x = 0 → Z p l e R s m args below meth c D nL G A Q ws lv cells slots tgt st) (kf : x = 0 → Z p l e R s m args below meth c D nL G A Q ws lv cells slots (pc + 3) st) : Z p l e R s m args below meth c D nL G A Q ws lv cells slots pc (.int x :: st) := fun H locs ls hP hD hS hl => lv_if_ne K.1 K.2.1 hdg ht (fun h => kt h H locs ls hP hD hS hl) (fun h => kf h H locs ls hP hD hS hl)
theorem z_if_lt (K : z_K p l s m args meth c G A D tys cc nL ret Ts own) {off : Int} {x : Int32} (tgt : Nat) (hdg : decode cc pc = .ok (.ifCond .lt off, 3)) (ht : (pc : Int) + off = (tgt : Int)) (kt : x < 0 → Z p l e R s m args below meth c D nL G A Q ws lv cells slots tgt st) (kf : ¬ x < 0 → Z p l e R s m args below meth c D nL G A Q ws lv cells slots (pc + 3) st) : Z p l e R s m args below meth c D nL G A Q ws lv cells slots pc (.int x :: st) := fun H locs ls hP hD hS hl => lv_if_lt K.1 K.2.1 hdg ht (fun h => kt h H locs ls hP hD hS hl) (fun h => kf h H locs ls hP hD hS hl)
theorem z_if_le (K : z_K p l s m args meth c G A D tys cc nL ret Ts own) {off : Int} {x : Int32} (tgt : Nat) (hdg : decode cc pc = .ok (.ifCond .le off, 3)) (ht : (pc : Int) + off = (tgt : Int)) (kt : x ≤ 0 → Z p l e R s m args below meth c D nL G A Q ws lv cells slots tgt st) (kf : ¬ x ≤ 0 → Z p l e R s m args below meth c D nL G A Q ws lv cells slots (pc + 3) st) : Z p l e R s m args below meth c D nL G A Q ws lv cells slots pc (.int x :: st) := fun H locs ls hP hD hS hl => lv_if_le K.1 K.2.1 hdg ht (fun h => kt h H locs ls hP hD hS hl) (fun h => kf h H locs ls hP hD hS hl)
theorem z_if_gt (K : z_K p l s m args meth c G A D tys cc nL ret Ts own) {off : Int} {x : Int32} (tgt : Nat) (hdg : decode cc pc = .ok (.ifCond .gt off, 3)) (ht : (pc : Int) + off = (tgt : Int)) (kt : 0 < x → Z p l e R s m args below meth c D nL G A Q ws lv cells slots tgt st) (kf : ¬ 0 < x → Z p l e R s m args below meth c D nL G A Q ws lv cells slots (pc + 3) st) : Z p l e R s m args below meth c D nL G A Q ws lv cells slots pc (.int x :: st) := fun H locs ls hP hD hS hl => lv_if_gt K.1 K.2.1 hdg ht (fun h => kt h H locs ls hP hD hS hl) (fun h => kf h H locs ls hP hD hS hl)
theorem z_if_ge (K : z_K p l s m args meth c G A D tys cc nL ret Ts own) {off : Int} {x : Int32} (tgt : Nat) (hdg : decode cc pc = .ok (.ifCond .ge off, 3)) (ht : (pc : Int) + off = (tgt : Int)) (kt : 0 ≤ x → Z p l e R s m args below meth c D nL G A Q ws lv cells slots tgt st) (kf : ¬ 0 ≤ x → Z p l e R s m args below meth c D nL G A Q ws lv cells slots (pc + 3) st) : Z p l e R s m args below meth c D nL G A Q ws lv cells slots pc (.int x :: st) := fun H locs ls hP hD hS hl => lv_if_ge K.1 K.2.1 hdg ht (fun h => kt h H locs ls hP hD hS hl) (fun h => kf h H locs ls hP hD hS hl)
theorem z_icmp_eq (K : z_K p l s m args meth c G A D tys cc nL ret Ts own) {off : Int} {x y : Int32} (tgt : Nat) (hdg : decode cc pc = .ok (.if_icmp .eq off, 3)) (ht : (pc : Int) + off = (tgt : Int)) (kt : x = y → Z p l e R s m args below meth c D nL G A Q ws lv cells slots tgt st) (kf : ¬ x = y → Z p l e R s m args below meth c D nL G A Q ws lv cells slots (pc + 3) st) : Z p l e R s m args below meth c D nL G A Q ws lv cells slots pc (.int y :: .int x :: st) := fun H locs ls hP hD hS hl => lv_icmp_eq K.1 K.2.1 hdg ht (fun h => kt h H locs ls hP hD hS hl) (fun h => kf h H locs ls hP hD hS hl)
theorem z_icmp_ne (K : z_K p l s m args meth c G A D tys cc nL ret Ts own) {off : Int} {x y : Int32} (tgt : Nat) (hdg : decode cc pc = .ok (.if_icmp .ne off, 3)) (ht : (pc : Int) + off = (tgt : Int)) (kt : ¬ x = y → Z p l e R s m args below meth c D nL G A Q ws lv cells slots tgt st) (kf : x = y → Z p l e R s m args below meth c D nL G A Q ws lv cells slots (pc + 3) st) : Z p l e R s m args below meth c D nL G A Q ws lv cells slots pc (.int y :: .int x :: st) := fun H locs ls hP hD hS hl => lv_icmp_ne K.1 K.2.1 hdg ht (fun h => kt h H locs ls hP hD hS hl) (fun h => kf h H locs ls hP hD hS hl)
theorem z_icmp_lt (K : z_K p l s m args meth c G A D tys cc nL ret Ts own) {off : Int} {x y : Int32} (tgt : Nat) (hdg : decode cc pc = .ok (.if_icmp .lt off, 3)) (ht : (pc : Int) + off = (tgt : Int)) (kt : x < y → Z p l e R s m args below meth c D nL G A Q ws lv cells slots tgt st) (kf : ¬ x < y → Z p l e R s m args below meth c D nL G A Q ws lv cells slots (pc + 3) st) : Z p l e R s m args below meth c D nL G A Q ws lv cells slots pc (.int y :: .int x :: st) := fun H locs ls hP hD hS hl => lv_icmp_lt K.1 K.2.1 hdg ht (fun h => kt h H locs ls hP hD hS hl) (fun h => kf h H locs ls hP hD hS hl)
theorem z_icmp_ge (K : z_K p l s m args meth c G A D tys cc nL ret Ts own) {off : Int} {x y : Int32} (tgt : Nat) (hdg : decode cc pc = .ok (.if_icmp .ge off, 3)) (ht : (pc : Int) + off = (tgt : Int)) (kt : y ≤ x → Z p l e R s m args below meth c D nL G A Q ws lv cells slots tgt st) (kf : ¬ y ≤ x → Z p l e R s m args below meth c D nL G A Q ws lv cells slots (pc + 3) st) : Z p l e R s m args below meth c D nL G A Q ws lv cells slots pc (.int y :: .int x :: st) := fun H locs ls hP hD hS hl => lv_icmp_ge K.1 K.2.1 hdg ht (fun h => kt h H locs ls hP hD hS hl) (fun h => kf h H locs ls hP hD hS hl)
theorem z_icmp_gt (K : z_K p l s m args meth c G A D tys cc nL ret Ts own) {off : Int} {x y : Int32} (tgt : Nat) (hdg : decode cc pc = .ok (.if_icmp .gt off, 3)) (ht : (pc : Int) + off = (tgt : Int)) (kt : y < x → Z p l e R s m args below meth c D nL G A Q ws lv cells slots tgt st) (kf : ¬ y < x → Z p l e R s m args below meth c D nL G A Q ws lv cells slots (pc + 3) st) : Z p l e R s m args below meth c D nL G A Q ws lv cells slots pc (.int y :: .int x :: st) := fun H locs ls hP hD hS hl => lv_icmp_gt K.1 K.2.1 hdg ht (fun h => kt h H locs ls hP hD hS hl) (fun h => kf h H locs ls hP hD hS hl)
theorem z_icmp_le (K : z_K p l s m args meth c G A D tys cc nL ret Ts own) {off : Int} {x y : Int32} (tgt : Nat) (hdg : decode cc pc = .ok (.if_icmp .le off, 3)) (ht : (pc : Int) + off = (tgt : Int)) (kt : x ≤ y → Z p l e R s m args below meth c D nL G A Q ws lv cells slots tgt st) (kf : ¬ x ≤ y → Z p l e R s m args below meth c D nL G A Q ws lv cells slots (pc + 3) st) : Z p l e R s m args below meth c D nL G A Q ws lv cells slots pc (.int y :: .int x :: st) := fun H locs ls hP hD hS hl => lv_icmp_le K.1 K.2.1 hdg ht (fun h => kt h H locs ls hP hD hS hl) (fun h => kf h H locs ls hP hD hS hl)
/-- a counter against its bound -/
theorem z_cmpN (K : z_K p l s m args meth c G A D tys cc nL ret Ts own) {off : Int} {x y : Int32} (tgt a b : Nat) (hdg : decode cc pc = .ok (.if_icmp .ge off, 3)) (ht : (pc : Int) + off = (tgt : Int)) (hx : x = nI a) (hy : y = nI b) (ha : a < 2 ^ 31) (hb : b < 2 ^ 31) (kt : b ≤ a → Z p l e R s m args below meth c D nL G A Q ws lv cells slots tgt st) (kf : a < b → Z p l e R s m args below meth c D nL G A Q ws lv cells slots (pc + 3) st) : Z p l e R s m args below meth c D nL G A Q ws lv cells slots pc (.int y :: .int x :: st) := by
  subst hx hy
  exact z_icmp_ge K tgt hdg ht (fun h => kt ((nI_leI hb ha).mp h)) (fun h => kf (Nat.lt_of_not_le (fun q => h ((nI_leI hb ha).mpr q))))
theorem z_dup2 (K : z_K p l s m args meth c G A D tys cc nL ret Ts own) {va vb : Value} (hdg : decode cc pc = .ok (.dup2, 1)) (hva : va.category = 1) (hvb : vb.category = 1) (kk : Z p l e R s m args below meth c D nL G A Q ws lv cells slots (pc + 1) (va :: vb :: va :: vb :: st)) : Z p l e R s m args below meth c D nL G A Q ws lv cells slots pc (va :: vb :: st) := fun H locs ls hP hD hS hl => lv_dup2_11 K.1 K.2.1 hdg hva hvb (kk H locs ls hP hD hS hl)
/-- a truth as a number -/
def z_b (b : Bool) : Int32 := if b then 1 else 0
theorem z_b0 {b : Bool} : z_b b = 0 ↔ b = false := by cases b <;> decide
theorem z_b1 {b : Bool} : ¬ z_b b = 0 ↔ b = true := by cases b <;> decide
theorem z_if_eqB (K : z_K p l s m args meth c G A D tys cc nL ret Ts own) {off : Int} {b : Bool} (tgt : Nat) (hdg : decode cc pc = .ok (.ifCond .eq off, 3)) (ht : (pc : Int) + off = (tgt : Int)) (kt : b = false → Z p l e R s m args below meth c D nL G A Q ws lv cells slots tgt st) (kf : b = true → Z p l e R s m args below meth c D nL G A Q ws lv cells slots (pc + 3) st) : Z p l e R s m args below meth c D nL G A Q ws lv cells slots pc (.int (z_b b) :: st) := z_if_eq K tgt hdg ht (fun h => kt (z_b0.mp h)) (fun h => kf (z_b1.mp h))
theorem z_if_neB (K : z_K p l s m args meth c G A D tys cc nL ret Ts own) {off : Int} {b : Bool} (tgt : Nat) (hdg : decode cc pc = .ok (.ifCond .ne off, 3)) (ht : (pc : Int) + off = (tgt : Int)) (kt : b = true → Z p l e R s m args below meth c D nL G A Q ws lv cells slots tgt st) (kf : b = false → Z p l e R s m args below meth c D nL G A Q ws lv cells slots (pc + 3) st) : Z p l e R s m args below meth c D nL G A Q ws lv cells slots pc (.int (z_b b) :: st) := z_if_ne K tgt hdg ht (fun h => kt (z_b1.mp h)) (fun h => kf (z_b0.mp h))
/-- fields -/
theorem z_get (K : z_K p l s m args meth c G A D tys cc nL ret Ts own) {C ref : String} {T : u_T} {N ci index : Nat} (hin : ∀ w ∈ u_ws C T N, w ∈ Ts) (hc : vwCl[ci]? = some (C, T, N)) (q0 : Nat) {a : Nat} {fs : List Value} (he : ws[q0]? = some (a, .inr (ci, fs))) (k : Nat) (hk : k < N) (hw : Cond.fieldLink own index ref (T k).2.1 (T k).2.2.1 ∈ Ts) (hsame : (T k).1 = ref) {v : Value} (hv : fs[k]? = some v) (hdg : decode cc pc = .ok (.getfield index, 3)) (kk : Z p l e R s m args below meth c D nL G A Q ws lv cells slots (pc + 3) (v :: st)) : Z p l e R s m args below meth c D nL G A Q ws lv cells slots pc (.ref a :: st) := fun H locs ls hP hD hS hl =>
  va_get K.1 K.2.1 K.2.2.2.2.1 hin K.2.2.2.1 K.2.2.2.2.2.1 hP q0 he hc k hk (K.2.2.2.2.1 _ hw) (fun x h => by rw [← hsame]; exact h) hv hdg (kk H locs ls hP hD hS hl)
theorem z_put (K : z_K p l s m args meth c G A D tys cc nL ret Ts own) {C ref : String} {T : u_T} {N ci index : Nat} (hin : ∀ w ∈ u_ws C T N, w ∈ Ts) (hc : vwCl[ci]? = some (C, T, N)) (ty0 : Nat → FieldType) (hty : ∀ k, k < N → parseFieldDescriptor (T k).2.2.1 = some (ty0 k)) (hnm : ∀ a, a < N → ∀ b, b < N → a ≠ b → (T a).2.1 ≠ (T b).2.1) (q0 : Nat) {a : Nat} {fs : List Value} (he : ws[q0]? = some (a, .inr (ci, fs))) (k : Nat) (hk : k < N) (hw : Cond.fieldLink own index ref (T k).2.1 (T k).2.2.1 ∈ Ts) (hsame : (T k).1 = ref) (hfin : (T k).2.2.2 = false) {v : Value} (hn : narrow (ty0 k) v = v) (hfit : fits (ty0 k) v = true) (hl0 : k < fs.length) (hA : A a) {ws' : va_W} (hws : ws.set q0 (a, .inr (ci, fs.set k v)) = ws') (hdg : decode cc pc = .ok (.putfield index, 3)) (kk : Z p l e R s m args below meth c D nL G A Q ws' lv cells slots (pc + 3) st) : Z p l e R s m args below meth c D nL G A Q ws lv cells slots pc (v :: .ref a :: st) := by
  intro H locs ls hP hD hS hl
  subst hws
  have hap := va_apart (own := own) K.2.2.2.2.1 hin ty0 hty hnm K.2.2.2.2.2.1 hc
  obtain ⟨r, h1, cell, q1, q2, q3, q4⟩ := hP q0 _ he
  have hr : r = (C, T, N) := Option.some.inj (h1.symm.trans hc)
  subst hr
  obtain ⟨hSl, hfc, kC, hkC, hkind⟩ := K.2.2.2.2.2.1.1 ci _ hc
  obtain ⟨cf, kf, fi, f, hi, hsl⟩ := hSl k hk
  have hlay := K.2.2.2.2.1 _ (hin _ (u_in_lay hk))
  unfold u_lay at hlay
  rw [if_neg (by rw [hfin]; decide)] at hlay
  have hst := (u_facts hfc hkC (u_lays K.2.2.2.2.1 hin hk) hi).1
  have h6 := u_store hfc hkC hkind hlay hi (hty k hk) hn hfit
  have hi2 : s.fieldFound? ref (T k).2.1 (T k).2.2.1 = some (cf, kf, fi, f) := by rw [← hsame]; exact hi
  refine W.putK K.1 K.2.1 (f := f) ⟨K.2.2.2.1, K.2.2.2.2.1 _ hw, ⟨_, _, _, hi2⟩, hst⟩ (by rw [q2]; exact h6) q1 q3 (by rw [hsl]; exact k2_hasslot (q4 k hk)) rfl rfl hdg fun H' e1 e2 e3 => ?_
  rw [hsl] at e1 ⊢
  exact kk H' _ ls (hP.set hD he ⟨_, hc, t_OB.to (V := updV (vp_V fs) k v) ⟨_, e1, q2, q3, t_set q4 hap hk v⟩ (fun j _ => vp_updV_set hl0 v j)⟩ e3) (hD.set he) (hS.put e2 e3 hA) hl
/-- arrays of ints -/
theorem z_iald (K : z_K p l s m args meth c G A D tys cc nL ret Ts own) (q0 t0 : Nat) {a : Nat} {cA : ClassId} {n : Nat} {f : Nat → Int32} (ha : ws[q0]? = some (a, .inl (cA, n, .inl f))) (ht : tys[t0]? = some (cA, .int)) {i : Int32} (hin : vp_in i n) (hdg : decode cc pc = .ok (.iaload, 1)) {x : Int32} (hx : f i.toNatClampNeg = x) (kk : Z p l e R s m args below meth c D nL G A Q ws lv cells slots (pc + 1) (.int x :: st)) : Z p l e R s m args below meth c D nL G A Q ws lv cells slots pc (.int i :: .ref a :: st) := fun H locs ls hP hD hS hl => va_iald K.1 K.2.1 K.2.2.2.2.2.1 hP q0 t0 ha ht hin hdg (by rw [hx]; exact kk H locs ls hP hD hS hl)
theorem z_iast (K : z_K p l s m args meth c G A D tys cc nL ret Ts own) (q0 t0 : Nat) {a : Nat} {cA : ClassId} {n : Nat} {f : Nat → Int32} (ha : ws[q0]? = some (a, .inl (cA, n, .inl f))) (ht : tys[t0]? = some (cA, .int)) {i x : Int32} (hin : vp_in i n) (hdg : decode cc pc = .ok (.iastore, 1)) (hA : A a) {j : Nat} (hj : i.toNatClampNeg = j) {ws' : va_W} (hws : ws.set q0 (a, .inl (cA, n, .inl (upd f j x))) = ws') (kk : Z p l e R s m args below meth c D nL G A Q ws' lv cells slots (pc + 1) st) : Z p l e R s m args below meth c D nL G A Q ws lv cells slots pc (.int x :: .int i :: .ref a :: st) := by
  intro H locs ls hP hD hS hl
  subst hws hj
  refine W.iast K.1 K.2.1 (hP q0 _ ha) ((K.2.2.2.2.2.1.2 t0 _ ht).1 n (fun j => .int (f j))) (fun q => by cases q) (by show ¬ (i < 0 ∨ (arrV _ _ _).slots.size ≤ _); rw [arrV_size]; exact hin) rfl rfl hdg fun H1 e z oq => ?_
  refine kk H1 _ ls (hP.set hD ha ?_ oq) (hD.set ha) (hS.put z oq hA) hl
  show H1[a]? = some (vp_cell _ _)
  rw [e]
  rw [vp_cell_i, vp_cell_i, arrV_store]
  show some (arrV cA n _) = some (arrV cA n _)
  congr 2
  funext q
  by_cases hq : q = i.toNatClampNeg
  · subst hq
    simp [updV, upd]
  · simp [updV, upd, hq]
theorem z_alen (K : z_K p l s m args meth c G A D tys cc nL ret Ts own) (q0 t0 : Nat) {a : Nat} {cA : ClassId} {x : vp_A} (ha : ws[q0]? = some (a, .inl (cA, x))) {ty : FieldType} (ht : tys[t0]? = some (cA, ty)) {v : Int32} (hv : Int32.ofNat x.1 = v) (hdg : decode cc pc = .ok (.arraylength, 1)) (kk : Z p l e R s m args below meth c D nL G A Q ws lv cells slots (pc + 1) (.int v :: st)) : Z p l e R s m args below meth c D nL G A Q ws lv cells slots pc (.ref a :: st) := fun H locs ls hP hD hS hl => va_alen K.1 K.2.1 K.2.2.2.2.2.1 hP q0 t0 ha ht hv hdg (kk H locs ls hP hD hS hl)
theorem z_lald (K : z_K p l s m args meth c G A D tys cc nL ret Ts own) (q0 t0 : Nat) {a : Nat} {cA : ClassId} {n : Nat} {f : Nat → Int64} (ha : ws[q0]? = some (a, .inl (cA, n, .inr (.inl f)))) (ht : tys[t0]? = some (cA, .long)) {i : Int32} (hin : vp_in i n) (hdg : decode cc pc = .ok (.laload, 1)) {x : Int64} (hx : f i.toNatClampNeg = x) (kk : Z p l e R s m args below meth c D nL G A Q ws lv cells slots (pc + 1) (.long x :: st)) : Z p l e R s m args below meth c D nL G A Q ws lv cells slots pc (.int i :: .ref a :: st) := fun H locs ls hP hD hS hl => va_lald K.1 K.2.1 K.2.2.2.2.2.1 hP q0 t0 ha ht hin hdg (by rw [hx]; exact kk H locs ls hP hD hS hl)
theorem z_last (K : z_K p l s m args meth c G A D tys cc nL ret Ts own) (q0 t0 : Nat) {a : Nat} {cA : ClassId} {n : Nat} {f : Nat → Int64} (ha : ws[q0]? = some (a, .inl (cA, n, .inr (.inl f)))) (ht : tys[t0]? = some (cA, .long)) {i : Int32} {x : Int64} (hin : vp_in i n) (hdg : decode cc pc = .ok (.lastore, 1)) (hA : A a) {j : Nat} (hj : i.toNatClampNeg = j) {ws' : va_W} (hws : ws.set q0 (a, .inl (cA, n, .inr (.inl (vp_updL f j x)))) = ws') (kk : Z p l e R s m args below meth c D nL G A Q ws' lv cells slots (pc + 1) st) : Z p l e R s m args below meth c D nL G A Q ws lv cells slots pc (.long x :: .int i :: .ref a :: st) := by
  intro H locs ls hP hD hS hl
  subst hws hj
  refine W.last K.1 K.2.1 (hP q0 _ ha) ((K.2.2.2.2.2.1.2 t0 _ ht).1 n (fun j => .long (f j))) (fun q => by cases q) (by show ¬ (i < 0 ∨ (arrV _ _ _).slots.size ≤ _); rw [arrV_size]; exact hin) rfl rfl hdg fun H1 e z oq => ?_
  refine kk H1 _ ls (hP.set hD ha ?_ oq) (hD.set ha) (hS.put z oq hA) hl
  show H1[a]? = some (vp_cell _ _)
  rw [e]
  rw [vp_cell_l, vp_cell_l, arrV_store]
  show some (arrV cA n _) = some (arrV cA n _)
  congr 2
  funext q
  by_cases hq : q = i.toNatClampNeg
  · subst hq
    simp [updV, vp_updL]
  · simp [updV, vp_updL, hq]
/-- a counted loop: from its end back to its head -/
theorem z_down {P : Nat → Prop} (n : Nat) (h0 : P n) (hs : ∀ k, k < n → P (k + 1) → P k) : ∀ k, k ≤ n → P k := by
  have key : ∀ d k, k + d = n → P k := by
    intro d
    induction d with
    | zero => intro k hk; rw [show k = n by omega]; exact h0
    | succ d ih => intro k hk; exact hs k (by omega) (ih (k + 1) (by omega))
  exact fun k hk => key (n - k) k (by omega)
/-- some cells of a world anew -/
def z_set : va_W → List Nat → va_W → va_W
  | ws, i :: is, w :: wv => z_set (ws.set i w) is wv
  | ws, _, _ => ws
theorem z_set_mem : ∀ (is : List Nat) (wv ws : va_W), is.map (fun i => (ws[i]?).map Prod.fst) = wv.map (fun w => some w.1) → (∀ k : Nat, ((z_set ws is wv)[k]?).map Prod.fst = (ws[k]?).map Prod.fst) ∧ ∀ (k : Nat) (q : Nat × va_E), (z_set ws is wv)[k]? = some q → q ∈ wv ∨ (ws[k]? = some q ∧ k ∉ is)
  | [], wv, ws, h => by
    have e : z_set ws [] wv = ws := by cases wv <;> rfl
    rw [e]
    exact ⟨fun _ => rfl, fun k q hq => Or.inr ⟨hq, List.not_mem_nil⟩⟩
  | i :: is, [], ws, h => by simp at h
  | i :: is, w :: wv, ws, h => by
    simp only [List.map_cons, List.cons.injEq] at h
    obtain ⟨h1, h2⟩ := h
    have hkey : ∀ k : Nat, ((ws.set i w)[k]?).map Prod.fst = (ws[k]?).map Prod.fst := by
      intro k
      by_cases hk : k = i
      · subst hk
        cases hwk : ws[k]? with
        | none => rw [hwk] at h1; simp at h1
        | some e =>
          have hl := (List.getElem?_eq_some_iff.mp hwk).1
          rw [List.getElem?_set_self hl]
          rw [hwk] at h1
          simpa using h1.symm
      · rw [List.getElem?_set_ne (Ne.symm hk)]
    have ih := z_set_mem is wv (ws.set i w) (by rw [← h2]; exact List.map_congr_left (fun j _ => hkey j))
    refine ⟨fun k => by rw [show z_set ws (i :: is) (w :: wv) = z_set (ws.set i w) is wv from rfl, ih.1 k, hkey k], fun k q hq => ?_⟩
    rcases ih.2 k q hq with h | ⟨h, hn⟩
    · exact Or.inl (List.mem_cons_of_mem _ h)
    · by_cases hk : k = i
      · subst hk
        have hl : k < ws.length := by
          have := (List.getElem?_eq_some_iff.mp h).1
          rwa [List.length_set] at this
        rw [List.getElem?_set_self hl] at h
        cases h
        exact Or.inl List.mem_cons_self
      · rw [List.getElem?_set_ne (Ne.symm hk)] at h
        exact Or.inr ⟨h, fun hm => (List.mem_cons.mp hm).elim hk hn⟩
theorem z_set_P {wv : va_W} {is : List Nat} {H H1 : Heap} (hP : va_P D vwCl ws H) (hD : va_D G ws) (hW : is.map (fun i => (ws[i]?).map Prod.fst) = wv.map (fun w => some w.1)) (hF : ∀ q, q < H.size → q ∉ wv.map Prod.fst → H1[q]? = H[q]?) (hPw : va_P D vwCl wv H1) : va_P D vwCl (z_set ws is wv) H1 := by
  intro k q hk
  rcases (z_set_mem is wv ws hW).2 k q hk with h | ⟨h, hn⟩
  · obtain ⟨j, hj⟩ := List.mem_iff_getElem?.mp h
    exact hPw j q hj
  · refine (hP k q h).kept (hF q.1 (hP k q h).lt (fun hm => ?_))
    obtain ⟨w, hw, e⟩ := List.mem_map.mp hm
    obtain ⟨j, hj⟩ := List.mem_iff_getElem?.mp hw
    have h1 : (is.map (fun i => (ws[i]?).map Prod.fst))[j]? = some (some w.1) := by rw [hW, List.getElem?_map, hj]; rfl
    rw [List.getElem?_map] at h1
    cases hi : is[j]? with
    | none => rw [hi] at h1; cases h1
    | some i =>
      rw [hi] at h1
      have h2 : (ws[i]?).map Prod.fst = some w.1 := Option.some.inj h1
      cases hwi : ws[i]? with
      | none => rw [hwi] at h2; cases h2
      | some e' =>
        rw [hwi] at h2
        have h3 : e'.1 = w.1 := Option.some.inj h2
        have := hD.1 k i q e' h hwi (by rw [h3, e])
        subst this
        exact hn (List.mem_of_getElem? hi)
theorem z_set_D {wv : va_W} {is : List Nat} (hD : va_D G ws) (hW : is.map (fun i => (ws[i]?).map Prod.fst) = wv.map (fun w => some w.1)) : va_D G (z_set ws is wv) := by
  have hm := (z_set_mem is wv ws hW).1
  have ex : ∀ (i : Nat) (q : Nat × va_E), (z_set ws is wv)[i]? = some q → ∃ q', ws[i]? = some q' ∧ q'.1 = q.1 := by
    intro i q h
    have h1 := hm i
    rw [h] at h1
    cases hw : ws[i]? with
    | none => rw [hw] at h1; cases h1
    | some e => rw [hw] at h1; exact ⟨e, rfl, (Option.some.inj h1).symm⟩
  refine ⟨fun i j a b ha hb hab => ?_, fun k q hk => ?_⟩
  · obtain ⟨a', h1, h2⟩ := ex i a ha
    obtain ⟨b', h3, h4⟩ := ex j b hb
    exact hD.1 i j a' b' h1 h3 (by rw [h2, h4, hab])
  · obtain ⟨q', h1, h2⟩ := ex k q hk
    rw [← h2]
    exact hD.2 k q' h1
/-! contracts: what a method answers, and which cells hold what behind it; nothing else is written -/
def z_A (ch : List Nat) (sz : Nat) : Nat → Prop := fun q => q ∈ ch ∨ sz ≤ q
def z_fr (ch : List Nat) (st t : State) : Prop := st.heap.size ≤ t.heap.size ∧ ∀ q : Nat, q < st.heap.size → q ∉ ch → t.heap[q]? = st.heap[q]?
def z_pre (l : Launch) (G : Nat → Prop) (D : va_G) (tys : List (ClassId × FieldType)) (av : List Value) (wp : va_W) (sz : Nat) (a : Array Value) (U : State) : Prop := U.heap.size = sz ∧ a = av.toArray ∧ va_P D vwCl wp U.heap ∧ z_E l G D tys U ∧ va_D G wp
def z_Q (D : va_G) (v : Option Value) (wv : va_W) (_ : Array Value) (st : State) (o : Outcome) (t : State) : Prop := o = .returned v ∧ va_P D vwCl wv t.heap ∧ z_fr (wv.map Prod.fst) st t
def z_X (D : va_G) (ex : String → Prop) (wx : va_W) (E : String) (st t : State) : Prop := ex E ∧ va_P D vwCl wx t.heap ∧ z_fr (wx.map Prod.fst) st t
/-- a method that returns: from the cells wp, with v; the cells wv behind it -/
def z_M (l : Launch) (y : MethodName) (wy : List Cond) (rm : Room) (G : Nat → Prop) (D : va_G) (tys : List (ClassId × FieldType)) (av : List Value) (wp : va_W) (v : Option Value) (wv : va_W) (mc ms : Nat) : Prop :=
  ∀ sz : Nat, Met l y wy rm (z_pre l G D tys av wp sz) (z_Q D v wv) mc ms (z_A (wv.map Prod.fst) sz)
/-- a method that returns (then ok holds) or throws an exception of a class of ex (then the cells wx hold) -/
def z_MX (l : Launch) (y : MethodName) (wy : List Cond) (rm : Room) (G : Nat → Prop) (D : va_G) (tys : List (ClassId × FieldType)) (av : List Value) (wp : va_W) (ok : Prop) (v : Option Value) (wv : va_W) (ex : String → Prop) (wx : va_W) (mc ms : Nat) : Prop :=
  ∀ sz : Nat, vx_Met l y wy rm (z_pre l G D tys av wp sz) (fun a st o t => ok ∧ z_Q D v wv a st o t) (z_X D ex wx) mc ms (z_A (wv.map Prod.fst) sz)
theorem z_blind {av : List Value} {wp : va_W} {sz : Nat} : FrameBlind (z_pre l G D tys av wp sz) := fun _ _ g mk q => ⟨q.1, q.2.1, q.2.2.1, q.2.2.2.1.calling g mk _, q.2.2.2.2⟩
theorem z_preP {av : List Value} {wp : va_W} {H : Heap} {locs : List Loc} (hE : z_E l G D tys s) (hAG : ∀ q, A q → G q) (hP : va_P D vwCl ws H) (hD : va_D G ws) (hS : va_S A s.heap H locs) (is : List Nat) (hn : va_nd is = true) (hC : is.map (fun i => ws[i]?) = wp.map some) (U : State) (hU : U.heap = H) (hW : s.WarmedH U.vm) : z_pre l G D tys av wp H.size av.toArray U := by
  refine ⟨by rw [hU], rfl, ?_, hE.step hW (by rw [hU]; exact hS.1) (fun q h1 h2 => by rw [hU]; exact hS.2.1 q h1 (fun h => h2 (hAG q h))), hD.sub is hn hC⟩
  rw [hU]
  refine hP.sub is ?_
  have : is.filterMap (fun i => ws[i]?) = (is.map (fun i => ws[i]?)).filterMap id := by rw [List.filterMap_map]; rfl
  rw [this, hC, List.filterMap_map]; exact List.filterMap_some
/-- behind a call -/
theorem z_after {wv : va_W} {isW : List Nat} {H : Heap} {locs L : List Loc} {st₀ t T' : State} (hP : va_P D vwCl ws H) (hD : va_D G ws) (hS : va_S A s.heap H locs) (hW : isW.map (fun i => (ws[i]?).map Prod.fst) = wv.map (fun w => some w.1)) (hA : ∀ q ∈ wv.map Prod.fst, A q) (hAn : ∀ q : Nat, s.heap.size ≤ q → A q)
    (h0 : st₀.heap = H) (e1 : T'.heap = t.heap) (hPv : va_P D vwCl wv t.heap) (hF : z_fr (wv.map Prod.fst) st₀ t) (hL : ∀ q ∈ L, z_A (wv.map Prod.fst) H.size q.base) : va_P D vwCl (z_set ws isW wv) T'.heap ∧ va_D G (z_set ws isW wv) ∧ va_S A s.heap T'.heap (locs ++ L) := by
  obtain ⟨f1, f2⟩ := hF
  rw [h0] at f1 f2
  refine ⟨z_set_P hP hD hW (fun q h1 h2 => by rw [e1]; exact f2 q h1 h2) (by rw [e1]; exact hPv), z_set_D hD hW, ?_, ?_, ?_⟩
  · rw [e1]; exact Nat.le_trans hS.1 f1
  · intro q h1 h2
    rw [e1, f2 q (Nat.lt_of_lt_of_le h1 hS.1) (fun h => h2 (hA q h))]
    exact hS.2.1 q h1 h2
  · intro q hq
    rcases List.mem_append.mp hq with h | h
    · exact hS.2.2 q h
    · rcases hL q h with h | h
      · exact hA _ h
      · exact hAn _ (Nat.le_trans hS.1 h)
theorem z_call {v : Option Value} {wv ws' : va_W} {mc ms : Nat} {rest st' : List Value} {a : Array Value} (K : z_K p l s m args meth c G A D tys cc nL ret Ts own)
    (hr : ∀ (H : Heap) (locs : List Loc) (ls : Array Slot), va_P D vwCl ws H → va_D G ws → va_S A s.heap H locs → lv_has ls nL lv → va_Run p l e R s m args below meth c H locs cells slots mc ms (F0 m pc ls st) rest (z_Q D v wv a) (z_A (wv.map Prod.fst) H.size))
    (isW : List Nat) (hW : isW.map (fun i => (ws[i]?).map Prod.fst) = wv.map (fun w => some w.1)) (hA : ∀ q ∈ wv.map Prod.fst, A q) (hws : z_set ws isW wv = ws') (hst : v.toList ++ rest = st')
    (kk : Z p l e R s m args below meth c D nL G A Q ws' lv (cells + mc) (slots + ms) (pc + 3) st') : Z p l e R s m args below meth c D nL G A Q ws lv cells slots pc st := by
  intro H locs ls hP hD hS hl T hT X
  obtain ⟨v', st₀, t, T', L, h0, X', hL, e1, e2, ⟨hv, hPv, hF⟩, go⟩ := hr H locs ls hP hD hS hl T hT X
  cases hv
  obtain ⟨g1, g2, g3⟩ := z_after hP hD hS hW hA K.2.2.2.2.2.2.2.2.2.2 h0 e1 hPv hF hL
  rw [hws] at g1 g2
  subst hst
  obtain ⟨t2, a1, b1⟩ := kk T'.heap (locs ++ L) ls g1 g2 g3 hl T' rfl X'
  exact ⟨t2, go t2 a1, b1⟩
theorem z_callX {v : Option Value} {ok : Prop} {ex : String → Prop} {wv wx ws' : va_W} {mc ms : Nat} {rest st' : List Value} {a : Array Value} (K : z_K p l s m args meth c G A D tys cc nL ret Ts own)
    (hr : ∀ (H : Heap) (locs : List Loc) (ls : Array Slot), va_P D vwCl ws H → va_D G ws → va_S A s.heap H locs → lv_has ls nL lv → vx_Run p l e R s m args below meth c H locs cells slots mc ms (F0 m pc ls st) rest (fun st o t => ok ∧ z_Q D v wv a st o t) (z_X D ex wx) (z_A (wv.map Prod.fst) H.size))
    (isW : List Nat) (hW : isW.map (fun i => (ws[i]?).map Prod.fst) = wv.map (fun w => some w.1)) (hA : ∀ q ∈ wv.map Prod.fst, A q) (hws : z_set ws isW wv = ws') (hst : v.toList ++ rest = st')
    (hwx : wx.map Prod.fst = wv.map Prod.fst) (hwx2 : isW.map (fun i => ws[i]?) = wx.map some) (hwx3 : z_set ws isW wx = ws)
    (kx : ∀ E : String, ex E → ZX p l e R s m args below meth c D nL G A Q ws lv (cells + mc) (slots + ms) pc E)
    (kk : ok → Z p l e R s m args below meth c D nL G A Q ws' lv (cells + mc) (slots + ms) (pc + 3) st') : Z p l e R s m args below meth c D nL G A Q ws lv cells slots pc st := by
  intro H locs ls hP hD hS hl T hT X
  rcases hr H locs ls hP hD hS hl T hT X with ⟨v', st₀, t, T', L, h0, X', hL, e1, e2, ⟨hok, hv, hPv, hF⟩, go⟩ | ⟨q, st₀, t, T', L, E, ce, h0, X', hL, e1, e2, ⟨hex, hPv, hF⟩, hce, hcv, hcl, go⟩
  · cases hv
    obtain ⟨g1, g2, g3⟩ := z_after hP hD hS hW hA K.2.2.2.2.2.2.2.2.2.2 h0 e1 hPv hF hL
    rw [hws] at g1 g2
    subst hst
    obtain ⟨t2, a1, b1⟩ := kk hok T'.heap (locs ++ L) ls g1 g2 g3 hl T' rfl X'
    exact ⟨t2, go t2 a1, b1⟩
  · have hW2 : isW.map (fun i => (ws[i]?).map Prod.fst) = wx.map (fun w => some w.1) := by
      have := congrArg (List.map (Option.map Prod.fst)) hwx2
      rw [List.map_map, List.map_map] at this
      exact this
    obtain ⟨g1, g2, g3⟩ := z_after hP hD hS hW2 (by rw [hwx]; exact hA) K.2.2.2.2.2.2.2.2.2.2 h0 e1 hPv hF (by rw [hwx]; exact hL)
    rw [hwx3] at g1 g2
    obtain ⟨t2, a1, b1⟩ := kx E hex T'.heap (locs ++ L) ls rest q ce g1 g2 g3 hl (by rw [e1]; exact hce) hcv hcl T' rfl X'
    exact ⟨t2, go.trans a1, b1⟩
theorem z_inA {ch : List Nat} {sz : Nat} {wv : va_W} (is : List Nat) (h : is.map (fun i => ch[i]?) = wv.map (fun w => some w.1)) : ∀ q ∈ wv.map Prod.fst, z_A ch sz q := by
  intro q hq
  obtain ⟨w, hw, e⟩ := List.mem_map.mp hq
  obtain ⟨j, hj⟩ := List.mem_iff_getElem?.mp hw
  have h1 : (is.map (fun i => ch[i]?))[j]? = some (some w.1) := by rw [h, List.getElem?_map, hj]; rfl
  rw [List.getElem?_map] at h1
  cases hi : is[j]? with
  | none => rw [hi] at h1; cases h1
  | some i =>
    rw [hi] at h1
    rw [← e]
    exact Or.inl (List.mem_of_getElem? (Option.some.inj h1))
/-- the calls by their kinds -/
theorem z_callV {y : MethodName} {wy wy' : List Cond} {rm : Room} {b : Nat} {As : List Value} {wp wv ws' : va_W} {v : Option Value} {mc ms index maxL : Nat} {by' : ByteArray} {ry : Option FieldType} {C : String} {rest st' : List Value} {fs : List Value} {T : u_T} {N : Nat}
    (K : z_K p l s m args meth c G A D tys cc nL ret Ts own) (hM : z_M l y wy rm G D tys (.ref b :: As) wp v wv mc ms) (hG : GoodIn Ts (wsV own index C y wy)) (hw : wy = Cond.code y by' maxL ry :: wy') (n ci : Nat)
    (hd : y.cls = C ∧ y.cls ≠ "java/lang/invoke/MethodHandle" ∧ y.cls ≠ "java/lang/invoke/VarHandle" ∧ (parseMethodDescriptor y.desc).map (fun d => d.parameters.length) = some n) (hc : vwCl[ci]? = some (C, T, N)) (hdg : decode cc pc = .ok (.invokevirtual index, 3))
    (is : List Nat) (q0 : Nat) (isW isA : List Nat) {ch : List Nat} {sz : Nat} (hAA : A = z_A ch sz) (hrc : rm.cells = mc) (hrs : rm.slots = ms) (hR : rm.frames + 1 ≤ R.frames ∧ 8 + (maxL + 11) + rm.locals ≤ R.locals) (hf : cells + mc ≤ R.cells ∧ slots + ms ≤ R.slots)
    (hn : va_nd is = true) (hC : is.map (fun i => ws[i]?) = wp.map some) (he : ws[q0]? = some (b, .inr (ci, fs))) (hlen : As.length = n) (hstk : st = As.reverse ++ .ref b :: rest) (hcat : (rest.map fun v => v.category).sum ≤ 8)
    (hW : isW.map (fun i => (ws[i]?).map Prod.fst) = wv.map (fun w => some w.1)) (hA : isA.map (fun i => ch[i]?) = wv.map (fun w => some w.1)) (hws : z_set ws isW wv = ws') (hst : v.toList ++ rest = st')
    (kk : Z p l e R s m args below meth c D nL G A Q ws' lv (cells + mc) (slots + ms) (pc + 3) st') : Z p l e R s m args below meth c D nL G A Q ws lv cells slots pc st :=
  z_call K (fun H locs ls hP hD hS hl => va_runV ⟨K.1, K.2.1, K.2.2.1, K.2.2.2.1, K.2.2.2.2.1⟩ (hM H.size) (cwV n K.2.2.2.2.1 hG hw hrc hrs hd hR) ⟨z_blind, va_recv K.2.2.2.2.2.1 hP hc he, fun U hU hW => z_preP K.2.2.2.2.2.2.2.2.1 K.2.2.2.2.2.2.2.2.2.1 hP hD hS is hn hC U hU hW⟩ rfl hlen hl.1 hstk (lv_room hcat) hdg hf) isW hW (by rw [hAA]; exact z_inA isA hA) hws hst kk
theorem z_callS {y : MethodName} {wy wy' : List Cond} {rm : Room} {As : List Value} {wp wv ws' : va_W} {v : Option Value} {mc ms index maxL : Nat} {by' : ByteArray} {ry : Option FieldType} {rest st' : List Value}
    (K : z_K p l s m args meth c G A D tys cc nL ret Ts own) (hM : z_M l y wy rm G D tys As wp v wv mc ms) (hG : GoodIn Ts (va_wsS own index y wy)) (hw : wy = Cond.code y by' maxL ry :: wy') (n : Nat)
    (hd : y.cls ≠ "java/lang/invoke/MethodHandle" ∧ y.cls ≠ "java/lang/invoke/VarHandle" ∧ (parseMethodDescriptor y.desc).map (fun d => d.parameters.length) = some n) (hdg : decode cc pc = .ok (.invokestatic index, 3))
    (is : List Nat) (isW isA : List Nat) {ch : List Nat} {sz : Nat} (hAA : A = z_A ch sz) (hrc : rm.cells = mc) (hrs : rm.slots = ms) (hR : rm.frames + 1 ≤ R.frames ∧ 8 + (maxL + 11) + rm.locals ≤ R.locals) (hf : cells + mc ≤ R.cells ∧ slots + ms ≤ R.slots)
    (hn : va_nd is = true) (hC : is.map (fun i => ws[i]?) = wp.map some) (hlen : As.length = n) (hstk : st = As.reverse ++ rest) (hcat : (rest.map fun v => v.category).sum ≤ 8)
    (hW : isW.map (fun i => (ws[i]?).map Prod.fst) = wv.map (fun w => some w.1)) (hA : isA.map (fun i => ch[i]?) = wv.map (fun w => some w.1)) (hws : z_set ws isW wv = ws') (hst : v.toList ++ rest = st')
    (kk : Z p l e R s m args below meth c D nL G A Q ws' lv (cells + mc) (slots + ms) (pc + 3) st') : Z p l e R s m args below meth c D nL G A Q ws lv cells slots pc st :=
  z_call K (fun H locs ls hP hD hS hl => va_runS ⟨K.1, K.2.1, K.2.2.1, K.2.2.2.1, K.2.2.2.2.1⟩ (hM H.size) (va_cwS n K.2.2.2.2.1 hG hw hrc hrs hd hR) ⟨z_blind, fun U hU hW => z_preP K.2.2.2.2.2.2.2.2.1 K.2.2.2.2.2.2.2.2.2.1 hP hD hS is hn hC U hU hW⟩ rfl hlen hl.1 hstk (lv_room hcat) hdg hf) isW hW (by rw [hAA]; exact z_inA isA hA) hws hst kk
/-- a private function of the host, without cells: nothing is written -/
theorem z_callSN {y : MethodName} {wy wy' : List Cond} {rm : Room} {As : List Value} {v : Option Value} {index maxL : Nat} {by' : ByteArray} {ry : Option FieldType} {rest st' : List Value} {host : String}
    (K : z_K p l s m args meth c G A D tys cc nL ret Ts own) (hM : z_M l y wy rm G D tys As [] v [] 0 0) (hG : GoodIn Ts wy) (hw : wy = Cond.code y by' maxL ry :: wy') (n : Nat) (hnest : (own, index, y, host) ∈ z_nests) (hini : Cond.initialized y.cls ∈ Ts) (hsta : Cond.static y ∈ Ts)
    (hd : y.cls ≠ "java/lang/invoke/MethodHandle" ∧ y.cls ≠ "java/lang/invoke/VarHandle" ∧ (parseMethodDescriptor y.desc).map (fun d => d.parameters.length) = some n) (hdg : decode cc pc = .ok (.invokestatic index, 3))
    (hrc : rm.cells = 0) (hrs : rm.slots = 0) (hR : rm.frames + 1 ≤ R.frames ∧ 8 + (maxL + 11) + rm.locals ≤ R.locals) (hf : cells ≤ R.cells ∧ slots ≤ R.slots)
    (hlen : As.length = n) (hstk : st = As.reverse ++ rest) (hcat : (rest.map fun v => v.category).sum ≤ 8) (hst : v.toList ++ rest = st')
    (kk : Z p l e R s m args below meth c D nL G A Q ws lv cells slots (pc + 3) st') : Z p l e R s m args below meth c D nL G A Q ws lv cells slots pc st :=
  z_call (ws' := ws) K (fun H locs ls hP hD hS hl => va_runSN ⟨K.1, K.2.1, K.2.2.1, K.2.2.2.1, K.2.2.2.2.1⟩ (hM H.size) ⟨va_cnB n K.2.2.2.2.1 hG hw hrc hrs (K.2.2.2.2.2.2.2.2.1.2.2.2.1 _ hnest) (K.2.2.2.2.1 _ hini) hd hR, K.2.2.2.2.1 _ hsta, trivial⟩ ⟨z_blind, fun U hU hW => z_preP K.2.2.2.2.2.2.2.2.1 K.2.2.2.2.2.2.2.2.2.1 hP hD hS [] rfl rfl U hU hW⟩ rfl hlen hl.1 hstk (lv_room hcat) hdg hf) [] rfl (fun _ h => nomatch h) rfl hst kk
theorem z_callVX {y : MethodName} {wy wy' : List Cond} {rm : Room} {b : Nat} {As : List Value} {wp wv wx ws' : va_W} {ok : Prop} {ex : String → Prop} {v : Option Value} {mc ms index maxL : Nat} {by' : ByteArray} {ry : Option FieldType} {C : String} {rest st' : List Value} {fs : List Value} {T : u_T} {N : Nat}
    (K : z_K p l s m args meth c G A D tys cc nL ret Ts own) (hM : z_MX l y wy rm G D tys (.ref b :: As) wp ok v wv ex wx mc ms) (hG : GoodIn Ts (wsV own index C y wy)) (hw : wy = Cond.code y by' maxL ry :: wy') (n ci : Nat)
    (hd : y.cls = C ∧ y.cls ≠ "java/lang/invoke/MethodHandle" ∧ y.cls ≠ "java/lang/invoke/VarHandle" ∧ (parseMethodDescriptor y.desc).map (fun d => d.parameters.length) = some n) (hc : vwCl[ci]? = some (C, T, N)) (hdg : decode cc pc = .ok (.invokevirtual index, 3))
    (is : List Nat) (q0 : Nat) (isW isA : List Nat) {ch : List Nat} {sz : Nat} (hAA : A = z_A ch sz) (hrc : rm.cells = mc) (hrs : rm.slots = ms) (hR : rm.frames + 1 ≤ R.frames ∧ 8 + (maxL + 11) + rm.locals ≤ R.locals) (hf : cells + mc ≤ R.cells ∧ slots + ms ≤ R.slots)
    (hn : va_nd is = true) (hC : is.map (fun i => ws[i]?) = wp.map some) (he : ws[q0]? = some (b, .inr (ci, fs))) (hlen : As.length = n) (hstk : st = As.reverse ++ .ref b :: rest) (hcat : (rest.map fun v => v.category).sum ≤ 8)
    (hW : isW.map (fun i => (ws[i]?).map Prod.fst) = wv.map (fun w => some w.1)) (hA : isA.map (fun i => ch[i]?) = wv.map (fun w => some w.1)) (hws : z_set ws isW wv = ws') (hst : v.toList ++ rest = st')
    (hwx : wx.map Prod.fst = wv.map Prod.fst) (hwx2 : isW.map (fun i => ws[i]?) = wx.map some) (hwx3 : z_set ws isW wx = ws)
    (kx : ∀ E : String, ex E → ZX p l e R s m args below meth c D nL G A Q ws lv (cells + mc) (slots + ms) pc E)
    (kk : ok → Z p l e R s m args below meth c D nL G A Q ws' lv (cells + mc) (slots + ms) (pc + 3) st') : Z p l e R s m args below meth c D nL G A Q ws lv cells slots pc st :=
  z_callX K (fun H locs ls hP hD hS hl => vx_runV ⟨K.1, K.2.1, K.2.2.1, K.2.2.2.1, K.2.2.2.2.1⟩ (hM H.size) (cwV n K.2.2.2.2.1 hG hw hrc hrs hd hR) ⟨z_blind, va_recv K.2.2.2.2.2.1 hP hc he, fun U hU hW => z_preP K.2.2.2.2.2.2.2.2.1 K.2.2.2.2.2.2.2.2.2.1 hP hD hS is hn hC U hU hW⟩ rfl hlen hl.1 hstk (lv_room hcat) hdg hf) isW hW (by rw [hAA]; exact z_inA isA hA) hws hst hwx hwx2 hwx3 kx kk
theorem z_callSX {y : MethodName} {wy wy' : List Cond} {rm : Room} {As : List Value} {wp wv wx ws' : va_W} {ok : Prop} {ex : String → Prop} {v : Option Value} {mc ms index maxL : Nat} {by' : ByteArray} {ry : Option FieldType} {rest st' : List Value}
    (K : z_K p l s m args meth c G A D tys cc nL ret Ts own) (hM : z_MX l y wy rm G D tys As wp ok v wv ex wx mc ms) (hG : GoodIn Ts (va_wsS own index y wy)) (hw : wy = Cond.code y by' maxL ry :: wy') (n : Nat)
    (hd : y.cls ≠ "java/lang/invoke/MethodHandle" ∧ y.cls ≠ "java/lang/invoke/VarHandle" ∧ (parseMethodDescriptor y.desc).map (fun d => d.parameters.length) = some n) (hdg : decode cc pc = .ok (.invokestatic index, 3))
    (is : List Nat) (isW isA : List Nat) {ch : List Nat} {sz : Nat} (hAA : A = z_A ch sz) (hrc : rm.cells = mc) (hrs : rm.slots = ms) (hR : rm.frames + 1 ≤ R.frames ∧ 8 + (maxL + 11) + rm.locals ≤ R.locals) (hf : cells + mc ≤ R.cells ∧ slots + ms ≤ R.slots)
    (hn : va_nd is = true) (hC : is.map (fun i => ws[i]?) = wp.map some) (hlen : As.length = n) (hstk : st = As.reverse ++ rest) (hcat : (rest.map fun v => v.category).sum ≤ 8)
    (hW : isW.map (fun i => (ws[i]?).map Prod.fst) = wv.map (fun w => some w.1)) (hA : isA.map (fun i => ch[i]?) = wv.map (fun w => some w.1)) (hws : z_set ws isW wv = ws') (hst : v.toList ++ rest = st')
    (hwx : wx.map Prod.fst = wv.map Prod.fst) (hwx2 : isW.map (fun i => ws[i]?) = wx.map some) (hwx3 : z_set ws isW wx = ws)
    (kx : ∀ E : String, ex E → ZX p l e R s m args below meth c D nL G A Q ws lv (cells + mc) (slots + ms) pc E)
    (kk : ok → Z p l e R s m args below meth c D nL G A Q ws' lv (cells + mc) (slots + ms) (pc + 3) st') : Z p l e R s m args below meth c D nL G A Q ws lv cells slots pc st :=
  z_callX K (fun H locs ls hP hD hS hl => vx_runS ⟨K.1, K.2.1, K.2.2.1, K.2.2.2.1, K.2.2.2.2.1⟩ (hM H.size) (va_cwS n K.2.2.2.2.1 hG hw hrc hrs hd hR) ⟨z_blind, fun U hU hW => z_preP K.2.2.2.2.2.2.2.2.1 K.2.2.2.2.2.2.2.2.2.1 hP hD hS is hn hC U hU hW⟩ rfl hlen hl.1 hstk (lv_room hcat) hdg hf) isW hW (by rw [hAA]; exact z_inA isA hA) hws hst hwx hwx2 hwx3 kx kk

end ZLIB
end
section
section ZENDS
variable {p : Program} {l : Launch} {e : Env} {R : Room} {s : State} {m : MethodId} {args : Array Value} {below : List Frame} {meth : Method} {c : Code} {D : va_G} {nL : Nat} {G A : Nat → Prop} {Q : State → Prop} {ws : va_W} {lv : List (Nat × Value)} {cells slots pc : Nat} {st : List Value} {cc : ByteArray} {ret : Option FieldType} {Ts : List Cond} {own : String} {tys : List (ClassId × FieldType)}
/-! a method from its entry to its ends -/
theorem z_AG {wp wv : va_W} {U : State} (hE : z_E l G D tys U) (hD : va_D G wp) (isG : List Nat) (hG : isG.map (fun i => (wp[i]?).map Prod.fst) = wv.map (fun w => some w.1)) : ∀ q, z_A (wv.map Prod.fst) U.heap.size q → G q := by
  intro q hq
  rcases hq with h | h
  · obtain ⟨w, hw, e⟩ := List.mem_map.mp h
    obtain ⟨j, hj⟩ := List.mem_iff_getElem?.mp hw
    have h1 : (isG.map (fun i => (wp[i]?).map Prod.fst))[j]? = some (some w.1) := by rw [hG, List.getElem?_map, hj]; rfl
    rw [List.getElem?_map] at h1
    cases hi : isG[j]? with
    | none => rw [hi] at h1; cases h1
    | some i =>
      rw [hi] at h1
      have h2 : (wp[i]?).map Prod.fst = some w.1 := Option.some.inj h1
      cases hwi : wp[i]? with
      | none => rw [hwi] at h2; cases h2
      | some e' =>
        rw [hwi] at h2
        have h3 : e'.1 = w.1 := Option.some.inj h2
        rw [← e, ← h3]
        exact hD.2 i e' hwi
  · exact hE.2.2.1 q h
theorem z_ofW {y : MethodName} {wy wy' : List Cond} {rm : Room} {av : List Value} {wp wv : va_W} {v : Option Value} {mc ms : Nat} (hy : plainName y.cls = true) (hw : wy = Cond.code y cc nL ret :: wy') (hav : (lg_sl av).length ≤ nL) (isG : List Nat) (hG : isG.map (fun i => (wp[i]?).map Prod.fst) = wv.map (fun w => some w.1)) {lv0 : List (Nat × Value)} (hlv : lv_args 0 av = lv0)
    (body : ∀ (p : Program) (e : Env) (s : State) (m : MethodId) (args : Array Value) (below : List Frame) (meth : Method) (c : Code), z_K p l s m args meth c G (z_A (wv.map Prod.fst) s.heap.size) D tys cc nL ret wy y.cls → Z p l e rm s m args below meth c D nL G (z_A (wv.map Prod.fst) s.heap.size) (MQ below (z_Q D v wv) args s mc ms (z_A (wv.map Prod.fst) s.heap.size)) wp lv0 0 0 0 []) : z_M l y wy rm G D tys av wp v wv mc ms := by
  intro sz
  refine Met.ofW (cc := cc) (maxL := nL) (ret := ret) hy hw ?_
  intro p e s m args below meth c s₁ B hml hv
  obtain ⟨hsz, rfl, hP, hE, hD⟩ := hv
  subst hsz
  have K : z_K p l s m av.toArray meth c G (z_A (wv.map Prod.fst) s.heap.size) D tys cc nL ret wy y.cls := ⟨B.exec, B.bytes, hml, findClass_of_methodNamed B.named, atoms_spec (ws := wy) B.pre, hE.1, B.returns, B.notSynchronized, hE, z_AG hE hD isG hG, fun q h => Or.inr h⟩
  rw [lg_entry_eq]
  exact body p e s m _ below meth c K s.heap [] _ hP hD va_S.rf (hlv ▸ lv_entry av hav)
theorem z_ofWX {y : MethodName} {wy wy' : List Cond} {rm : Room} {av : List Value} {wp wv wx : va_W} {v : Option Value} {ok : Prop} {ex : String → Prop} {mc ms : Nat} (hy : plainName y.cls = true) (hw : wy = Cond.code y cc nL ret :: wy') (hav : (lg_sl av).length ≤ nL) (isG : List Nat) (hG : isG.map (fun i => (wp[i]?).map Prod.fst) = wv.map (fun w => some w.1)) {lv0 : List (Nat × Value)} (hlv : lv_args 0 av = lv0)
    (body : ∀ (p : Program) (e : Env) (s : State) (m : MethodId) (args : Array Value) (below : List Frame) (meth : Method) (c : Code), z_K p l s m args meth c G (z_A (wv.map Prod.fst) s.heap.size) D tys cc nL ret wy y.cls → (∀ x ∈ c.exceptionTable.toList, False) → Z p l e rm s m args below meth c D nL G (z_A (wv.map Prod.fst) s.heap.size) (vx_MQ below (fun a st o t => ok ∧ z_Q D v wv a st o t) (z_X D ex wx) args s mc ms (z_A (wv.map Prod.fst) s.heap.size)) wp lv0 0 0 0 []) : z_MX l y wy rm G D tys av wp ok v wv ex wx mc ms := by
  intro sz
  refine vx_ofW (cc := cc) (maxL := nL) (ret := ret) hy hw ?_
  intro p e s m args below meth c s₁ B hml htab hv
  obtain ⟨hsz, rfl, hP, hE, hD⟩ := hv
  subst hsz
  have K : z_K p l s m av.toArray meth c G (z_A (wv.map Prod.fst) s.heap.size) D tys cc nL ret wy y.cls := ⟨B.exec, B.bytes, hml, findClass_of_methodNamed B.named, atoms_spec (ws := wy) B.pre, hE.1, B.returns, B.notSynchronized, hE, z_AG hE hD isG hG, fun q h => Or.inr h⟩
  rw [lg_entry_eq]
  exact body p e s m _ below meth c K htab s.heap [] _ hP hD va_S.rf (hlv ▸ lv_entry av hav)
theorem z_frOf {wv : va_W} {H : Heap} {locs : List Loc} {t : State} (hS : va_S (z_A (wv.map Prod.fst) s.heap.size) s.heap H locs) (ht : t.heap = H) : z_fr (wv.map Prod.fst) s t := ⟨by rw [ht]; exact hS.1, fun q h1 h2 => by rw [ht]; exact hS.2.1 q h1 (fun h => h.elim h2 (fun h => absurd h (Nat.not_le.mpr h1)))⟩
theorem z_subP {wv : va_W} {H : Heap} (hP : va_P D vwCl ws H) (isW : List Nat) (hW : isW.map (fun i => ws[i]?) = wv.map some) : va_P D vwCl wv H := by
  refine hP.sub isW ?_
  have : isW.filterMap (fun i => ws[i]?) = (isW.map (fun i => ws[i]?)).filterMap id := by rw [List.filterMap_map]; rfl
  rw [this, hW, List.filterMap_map]; exact List.filterMap_some
theorem z_Qof {wv : va_W} {v : Option Value} {H : Heap} {locs : List Loc} {t : State} (hP : va_P D vwCl ws H) (hS : va_S (z_A (wv.map Prod.fst) s.heap.size) s.heap H locs) (isW : List Nat) (hW : isW.map (fun i => ws[i]?) = wv.map some) (ht : t.heap = H) : z_Q D v wv args s (.returned v) t := ⟨rfl, by rw [ht]; exact z_subP hP isW hW, z_frOf hS ht⟩
theorem z_iret {wv : va_W} {mc ms : Nat} (K : z_K p l s m args meth c G (z_A (wv.map Prod.fst) s.heap.size) D tys cc nL (some .int) Ts own) {x y : Int32} (hdg : decode cc pc = .ok (.ireturn, 1)) (hx : x = y) (isW : List Nat) (hW : isW.map (fun i => ws[i]?) = wv.map some) (hc : cells ≤ mc) (hs : slots ≤ ms) : Z p l e R s m args below meth c D nL G (z_A (wv.map Prod.fst) s.heap.size) (MQ below (z_Q D (some (.int y)) wv) args s mc ms (z_A (wv.map Prod.fst) s.heap.size)) ws lv cells slots pc [.int x] := by
  subst hx
  exact fun H locs ls hP hD hS hl => W.widen hc hs (W.iret K.1 K.2.1 K.2.2.2.2.2.2.1 (fun t ht _ => z_Qof hP hS isW hW ht) hS.2.2 hdg K.2.2.2.2.2.2.2.1)
theorem z_iretX {wv : va_W} {mc ms : Nat} (K : z_K p l s m args meth c G (z_A (wv.map Prod.fst) s.heap.size) D tys cc nL (some .int) Ts own) {x y : Int32} {ok : Prop} {XC : String → State → State → Prop} (hok : ok) (hdg : decode cc pc = .ok (.ireturn, 1)) (hx : x = y) (isW : List Nat) (hW : isW.map (fun i => ws[i]?) = wv.map some) (hc : cells ≤ mc) (hs : slots ≤ ms) : Z p l e R s m args below meth c D nL G (z_A (wv.map Prod.fst) s.heap.size) (vx_MQ below (fun a st o t => ok ∧ z_Q D (some (.int y)) wv a st o t) XC args s mc ms (z_A (wv.map Prod.fst) s.heap.size)) ws lv cells slots pc [.int x] := by
  subst hx
  exact fun H locs ls hP hD hS hl => W.widen hc hs (vx_ret (W.iret K.1 K.2.1 K.2.2.2.2.2.2.1 (fun t ht _ => ⟨hok, z_Qof hP hS isW hW ht⟩) hS.2.2 hdg K.2.2.2.2.2.2.2.1))
theorem z_lret {wv : va_W} {mc ms : Nat} (K : z_K p l s m args meth c G (z_A (wv.map Prod.fst) s.heap.size) D tys cc nL (some .long) Ts own) {x y : Int64} (hdg : decode cc pc = .ok (.lreturn, 1)) (hx : x = y) (isW : List Nat) (hW : isW.map (fun i => ws[i]?) = wv.map some) (hc : cells ≤ mc) (hs : slots ≤ ms) : Z p l e R s m args below meth c D nL G (z_A (wv.map Prod.fst) s.heap.size) (MQ below (z_Q D (some (.long y)) wv) args s mc ms (z_A (wv.map Prod.fst) s.heap.size)) ws lv cells slots pc [.long x] := by
  subst hx
  exact fun H locs ls hP hD hS hl => W.widen hc hs (W.lret K.1 K.2.1 K.2.2.2.2.2.2.1 (fun t ht _ => z_Qof hP hS isW hW ht) hS.2.2 hdg K.2.2.2.2.2.2.2.1)
theorem z_lretX {wv : va_W} {mc ms : Nat} (K : z_K p l s m args meth c G (z_A (wv.map Prod.fst) s.heap.size) D tys cc nL (some .long) Ts own) {x y : Int64} {ok : Prop} {XC : String → State → State → Prop} (hok : ok) (hdg : decode cc pc = .ok (.lreturn, 1)) (hx : x = y) (isW : List Nat) (hW : isW.map (fun i => ws[i]?) = wv.map some) (hc : cells ≤ mc) (hs : slots ≤ ms) : Z p l e R s m args below meth c D nL G (z_A (wv.map Prod.fst) s.heap.size) (vx_MQ below (fun a st o t => ok ∧ z_Q D (some (.long y)) wv a st o t) XC args s mc ms (z_A (wv.map Prod.fst) s.heap.size)) ws lv cells slots pc [.long x] := by
  subst hx
  exact fun H locs ls hP hD hS hl => W.widen hc hs (vx_ret (W.lret K.1 K.2.1 K.2.2.2.2.2.2.1 (fun t ht _ => ⟨hok, z_Qof hP hS isW hW ht⟩) hS.2.2 hdg K.2.2.2.2.2.2.2.1))
theorem z_dret {wv : va_W} {mc ms : Nat} (K : z_K p l s m args meth c G (z_A (wv.map Prod.fst) s.heap.size) D tys cc nL (some .double) Ts own) {x y : UInt64} (hdg : decode cc pc = .ok (.dreturn, 1)) (hx : x = y) (isW : List Nat) (hW : isW.map (fun i => ws[i]?) = wv.map some) (hc : cells ≤ mc) (hs : slots ≤ ms) : Z p l e R s m args below meth c D nL G (z_A (wv.map Prod.fst) s.heap.size) (MQ below (z_Q D (some (.double y)) wv) args s mc ms (z_A (wv.map Prod.fst) s.heap.size)) ws lv cells slots pc [.double x] := by
  subst hx
  exact fun H locs ls hP hD hS hl => W.widen hc hs (W.dret K.1 K.2.1 K.2.2.2.2.2.2.1 (fun t ht _ => z_Qof hP hS isW hW ht) hS.2.2 hdg K.2.2.2.2.2.2.2.1)
theorem z_dretX {wv : va_W} {mc ms : Nat} (K : z_K p l s m args meth c G (z_A (wv.map Prod.fst) s.heap.size) D tys cc nL (some .double) Ts own) {x y : UInt64} {ok : Prop} {XC : String → State → State → Prop} (hok : ok) (hdg : decode cc pc = .ok (.dreturn, 1)) (hx : x = y) (isW : List Nat) (hW : isW.map (fun i => ws[i]?) = wv.map some) (hc : cells ≤ mc) (hs : slots ≤ ms) : Z p l e R s m args below meth c D nL G (z_A (wv.map Prod.fst) s.heap.size) (vx_MQ below (fun a st o t => ok ∧ z_Q D (some (.double y)) wv a st o t) XC args s mc ms (z_A (wv.map Prod.fst) s.heap.size)) ws lv cells slots pc [.double x] := by
  subst hx
  exact fun H locs ls hP hD hS hl => W.widen hc hs (vx_ret (W.dret K.1 K.2.1 K.2.2.2.2.2.2.1 (fun t ht _ => ⟨hok, z_Qof hP hS isW hW ht⟩) hS.2.2 hdg K.2.2.2.2.2.2.2.1))
theorem z_zret {wv : va_W} {mc ms : Nat} (K : z_K p l s m args meth c G (z_A (wv.map Prod.fst) s.heap.size) D tys cc nL (some .boolean) Ts own) {x : Int32} {y : Bool} (hdg : decode cc pc = .ok (.ireturn, 1)) (hx : x = z_b y) (isW : List Nat) (hW : isW.map (fun i => ws[i]?) = wv.map some) (hc : cells ≤ mc) (hs : slots ≤ ms) : Z p l e R s m args below meth c D nL G (z_A (wv.map Prod.fst) s.heap.size) (MQ below (z_Q D (some (.int (z_b y))) wv) args s mc ms (z_A (wv.map Prod.fst) s.heap.size)) ws lv cells slots pc [.int x] := by
  subst hx
  exact fun H locs ls hP hD hS hl => W.widen hc hs (W.zret K.1 K.2.1 K.2.2.2.2.2.2.1 (by cases y <;> rfl) (fun t ht _ => z_Qof hP hS isW hW ht) hS.2.2 hdg K.2.2.2.2.2.2.2.1)
theorem z_vret {wv : va_W} {mc ms : Nat} (K : z_K p l s m args meth c G (z_A (wv.map Prod.fst) s.heap.size) D tys cc nL (none) Ts own) (hdg : decode cc pc = .ok (.return_, 1)) (isW : List Nat) (hW : isW.map (fun i => ws[i]?) = wv.map some) (hc : cells ≤ mc) (hs : slots ≤ ms) : Z p l e R s m args below meth c D nL G (z_A (wv.map Prod.fst) s.heap.size) (MQ below (z_Q D none wv) args s mc ms (z_A (wv.map Prod.fst) s.heap.size)) ws lv cells slots pc [] :=
  fun H locs ls hP hD hS hl => W.widen hc hs (W.vret K.1 K.2.1 K.2.2.2.2.2.2.1 (fun t ht _ => z_Qof hP hS isW hW ht) hS.2.2 hdg K.2.2.2.2.2.2.2.1)
theorem z_zretX {wv : va_W} {mc ms : Nat} (K : z_K p l s m args meth c G (z_A (wv.map Prod.fst) s.heap.size) D tys cc nL (some .boolean) Ts own) {x : Int32} {y : Bool} {ok : Prop} {XC : String → State → State → Prop} (hok : ok) (hdg : decode cc pc = .ok (.ireturn, 1)) (hx : x = z_b y) (isW : List Nat) (hW : isW.map (fun i => ws[i]?) = wv.map some) (hc : cells ≤ mc) (hs : slots ≤ ms) : Z p l e R s m args below meth c D nL G (z_A (wv.map Prod.fst) s.heap.size) (vx_MQ below (fun a st o t => ok ∧ z_Q D (some (.int (z_b y))) wv a st o t) XC args s mc ms (z_A (wv.map Prod.fst) s.heap.size)) ws lv cells slots pc [.int x] := by
  subst hx
  exact fun H locs ls hP hD hS hl => W.widen hc hs (vx_ret (W.zret K.1 K.2.1 K.2.2.2.2.2.2.1 (by cases y <;> rfl) (fun t ht _ => ⟨hok, z_Qof hP hS isW hW ht⟩) hS.2.2 hdg K.2.2.2.2.2.2.2.1))
theorem z_vretX {wv : va_W} {mc ms : Nat} (K : z_K p l s m args meth c G (z_A (wv.map Prod.fst) s.heap.size) D tys cc nL (none) Ts own) {ok : Prop} {XC : String → State → State → Prop} (hok : ok) (hdg : decode cc pc = .ok (.return_, 1)) (isW : List Nat) (hW : isW.map (fun i => ws[i]?) = wv.map some) (hc : cells ≤ mc) (hs : slots ≤ ms) : Z p l e R s m args below meth c D nL G (z_A (wv.map Prod.fst) s.heap.size) (vx_MQ below (fun a st o t => ok ∧ z_Q D none wv a st o t) XC args s mc ms (z_A (wv.map Prod.fst) s.heap.size)) ws lv cells slots pc [] :=
  fun H locs ls hP hD hS hl => W.widen hc hs (vx_ret (W.vret K.1 K.2.1 K.2.2.2.2.2.2.1 (fun t ht _ => ⟨hok, z_Qof hP hS isW hW ht⟩) hS.2.2 hdg K.2.2.2.2.2.2.2.1))
theorem zx_out {Qc : Array Value → State → Outcome → State → Prop} {ex : String → Prop} {wx : va_W} {E : String} {mc ms : Nat} (K : z_K p l s m args meth c G (z_A (wx.map Prod.fst) s.heap.size) D tys cc nL ret Ts own) (htab : ∀ x ∈ c.exceptionTable.toList, False) (hex : ex E) (isW : List Nat) (hW : isW.map (fun i => ws[i]?) = wx.map some) (hc : cells ≤ mc) (hs : slots ≤ ms) : ZX p l e R s m args below meth c D nL G (z_A (wx.map Prod.fst) s.heap.size) (vx_MQ below Qc (z_X D ex wx) args s mc ms (z_A (wx.map Prod.fst) s.heap.size)) ws lv cells slots pc E := fun H locs ls rest q ce hP hD hS hl hce hcv hcl =>
  vx_out (fun x hx => (htab x hx).elim) K.2.2.2.2.2.2.2.1 hce hcv hcl (fun t ht _ => ⟨hex, by rw [ht]; exact z_subP hP isW hW, z_frOf hS ht⟩) hS.2.2 hc hs
theorem z_throw {Qc : Array Value → State → Outcome → State → Prop} {ex : String → Prop} {wx : va_W} {mc ms ik is ic : Nat} {cls text : String} (K : z_K p l s m args meth c G (z_A (wx.map Prod.fst) s.heap.size) D tys cc nL ret Ts "FableIndex") (htab : ∀ x ∈ c.exceptionTable.toList, False) (hcls : Bundle.fit cls = true) (hk : Cond.classLink "FableIndex" ik cls ∈ Ts) (hini : Cond.initialized cls ∈ Ts) (hstr : (is, text) ∈ z_strs) (hcast : (cls, cls) ∈ z_casts)
    (hng : ∀ w ∈ (vx_atS "FableIndex" ic cls ["java/lang/RuntimeException", "java/lang/Exception"]).filter (fun w => !goodWord w), w ∈ (Cond.castable cls cls :: z_decls.map Cond.declares)) (hgw : (Cond.classLink "FableIndex" ik cls :: Cond.initialized cls :: vx_atS "FableIndex" ic cls ["java/lang/RuntimeException", "java/lang/Exception"]).all vx_ot = true) (hat : ∀ w ∈ (vx_atS "FableIndex" ic cls ["java/lang/RuntimeException", "java/lang/Exception"]).filter goodWord, w ∈ Ts)
    (d0 : decode cc pc = .ok (.new ik, 3)) (d3 : decode cc (pc + 3) = .ok (.dup, 1)) (d4 : decode cc (pc + 4) = .ok (.ldc is, 2)) (d6 : decode cc (pc + 6) = .ok (.invokespecial ic, 3)) (d9 : decode cc (pc + 9) = .ok (.athrow, 1))
    (hex : ex cls) (isW : List Nat) (hW : isW.map (fun i => ws[i]?) = wx.map some) (hcat : (st.map fun v => v.category).sum + 82 ≤ R.locals) (hRf : 5 < R.frames) (hRc : cells + 1 ≤ R.cells) (hRs : slots + 6 ≤ R.slots) (hc : cells + 1 ≤ mc) (hs : slots + 6 ≤ ms) : Z p l e R s m args below meth c D nL G (z_A (wx.map Prod.fst) s.heap.size) (vx_MQ below Qc (z_X D ex wx) args s mc ms (z_A (wx.map Prod.fst) s.heap.size)) ws lv cells slots pc st := by
  intro H locs ls hP hD hS hl
  have hE := K.2.2.2.2.2.2.2.2.1
  obtain ⟨sa, hsa⟩ := hE.2.2.2.2.2.2.1 _ hstr
  have hts := K.2.2.2.2.1
  refine vx_throwS (A := z_A (wx.map Prod.fst) s.heap.size) (names := ["java/lang/RuntimeException", "java/lang/Exception"]) (sa := sa) K.1 K.2.1 hE.2.1 K.2.2.2.1 hcls (by decide +kernel) (hts _ hk) (hts _ hini) hsa (vx_hat (B := (Cond.castable cls cls :: z_decls.map Cond.declares)) (fun w hw => hts w (hat w hw)) hng (vx_c (va_Nw.use rfl (hE.2.2.2.2.1.1 _ hcast)) (fun w hw => by obtain ⟨q, hq, e⟩ := List.mem_map.mp hw; rw [← e]; exact va_Nw.use rfl (hE.2.2.2.2.1.2 q hq)))) (fun w hw => List.all_eq_true.mp hgw w hw)
    (hE.2.2.2.2.2.2.2.1.narrow K.2.2.2.2.2.2.2.2.2.1) (hE.2.2.2.2.2.2.2.2.narrow K.2.2.2.2.2.2.2.2.2.1) hS (by rw [K.2.2.1]; exact hl.1) d0 d3 d4 d6 d9 (fun x hx => (htab x hx).elim) (by simpa using hRf) (by simpa using hcat) hRc hRs K.2.2.2.2.2.2.2.1 ?_ hS.2.2 hc hs
  intro t hvm h1 h2
  refine ⟨hex, ?_, ?_⟩
  · intro k q hk
    have hq := z_subP hP isW hW k q hk
    exact hq.kept (h2 _ hq.lt)
  · exact ⟨Nat.le_trans hS.1 h1, fun q g1 g2 => by rw [h2 q (Nat.lt_of_lt_of_le g1 hS.1)]; exact hS.2.1 q g1 (fun h => h.elim g2 (fun h => absurd h (Nat.not_le.mpr g1)))⟩
theorem z_ng1 : ∀ w ∈ (vx_atS "FableIndex" 242 z_IOB ["java/lang/RuntimeException", "java/lang/Exception"]).filter (fun w => !goodWord w), w ∈ (Cond.castable z_IOB z_IOB :: z_decls.map Cond.declares) := by decide +kernel
theorem z_gw1 : (Cond.classLink "FableIndex" 238 z_IOB :: Cond.initialized z_IOB :: vx_atS "FableIndex" 242 z_IOB ["java/lang/RuntimeException", "java/lang/Exception"]).all vx_ot = true := by decide +kernel
theorem z_ng2 : ∀ w ∈ (vx_atS "FableIndex" 62 z_ISE ["java/lang/RuntimeException", "java/lang/Exception"]).filter (fun w => !goodWord w), w ∈ (Cond.castable z_ISE z_ISE :: z_decls.map Cond.declares) := by decide +kernel
theorem z_gw2 : (Cond.classLink "FableIndex" 58 z_ISE :: Cond.initialized z_ISE :: vx_atS "FableIndex" 62 z_ISE ["java/lang/RuntimeException", "java/lang/Exception"]).all vx_ot = true := by decide +kernel
theorem z_ng3 : ∀ w ∈ (vx_atS "FableIndex" 89 z_IAE ["java/lang/RuntimeException", "java/lang/Exception"]).filter (fun w => !goodWord w), w ∈ (Cond.castable z_IAE z_IAE :: z_decls.map Cond.declares) := by decide +kernel
theorem z_gw3 : (Cond.classLink "FableIndex" 85 z_IAE :: Cond.initialized z_IAE :: vx_atS "FableIndex" 89 z_IAE ["java/lang/RuntimeException", "java/lang/Exception"]).all vx_ot = true := by decide +kernel

end ZENDS
end
