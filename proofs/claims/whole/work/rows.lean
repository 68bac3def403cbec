section
-- ===== PART A: goes FIRST, ahead of the names: the tables' words, and 'selects' of the private methods out of them =====
/-- a private method of a class that the tables say can be made, by its rows of tables_1 -/
def lw_okq (q : MethodName × Nat) : Prop := (q.1.cls ≠ "java/lang/invoke/MethodHandle" ∧ q.1.cls ≠ "java/lang/invoke/VarHandle") ∧ Cond.instantiable q.1.cls q.2 ∈ tables_1 ∧ Cond.privateMethod q.1 ∈ tables_1 ∧ Cond.instanceMethod q.1 ∈ tables_1
theorem lw_p0 : lw_okq (⟨"FableIndex", "mixedWithFable", "(JI)J"⟩, 4) := ⟨⟨by decide +kernel, by decide +kernel⟩, List.mem_of_getElem? (i := 14) (by decide +kernel), List.mem_of_getElem? (i := 180) (by decide +kernel), List.mem_of_getElem? (i := 181) (by decide +kernel)⟩
theorem lw_p1 : lw_okq (⟨"FableIndex", "needFable", "(I)V"⟩, 4) := ⟨⟨by decide +kernel, by decide +kernel⟩, List.mem_of_getElem? (i := 14) (by decide +kernel), List.mem_of_getElem? (i := 188) (by decide +kernel), List.mem_of_getElem? (i := 189) (by decide +kernel)⟩
theorem lw_p2 : lw_okq (⟨"java/lang/Throwable", "fillInStackTrace", "(I)Ljava/lang/Throwable;"⟩, 6) := ⟨⟨by decide +kernel, by decide +kernel⟩, List.mem_of_getElem? (i := 230) (by decide +kernel), List.mem_of_getElem? (i := 228) (by decide +kernel), List.mem_of_getElem? (i := 229) (by decide +kernel)⟩
theorem lw_p3 : lw_okq (⟨"FableIndex", "mixedWithValley", "(JI)J"⟩, 4) := ⟨⟨by decide +kernel, by decide +kernel⟩, List.mem_of_getElem? (i := 14) (by decide +kernel), List.mem_of_getElem? (i := 306) (by decide +kernel), List.mem_of_getElem? (i := 307) (by decide +kernel)⟩
theorem lw_p4 : lw_okq (⟨"FableIndex", "needFreePage", "()V"⟩, 4) := ⟨⟨by decide +kernel, by decide +kernel⟩, List.mem_of_getElem? (i := 14) (by decide +kernel), List.mem_of_getElem? (i := 344) (by decide +kernel), List.mem_of_getElem? (i := 345) (by decide +kernel)⟩
theorem lw_p5 : lw_okq (⟨"FableIndex$Land", "hush", "()V"⟩, 7) := ⟨⟨by decide +kernel, by decide +kernel⟩, List.mem_of_getElem? (i := 62) (by decide +kernel), List.mem_of_getElem? (i := 465) (by decide +kernel), List.mem_of_getElem? (i := 466) (by decide +kernel)⟩
theorem lw_p6 : lw_okq (⟨"FableIndex$Land", "spread", "(LFableIndex$Book;)Z"⟩, 7) := ⟨⟨by decide +kernel, by decide +kernel⟩, List.mem_of_getElem? (i := 62) (by decide +kernel), List.mem_of_getElem? (i := 469) (by decide +kernel), List.mem_of_getElem? (i := 470) (by decide +kernel)⟩
theorem lw_p7 : lw_okq (⟨"FableIndex$Land", "arriving", "(I)I"⟩, 7) := ⟨⟨by decide +kernel, by decide +kernel⟩, List.mem_of_getElem? (i := 62) (by decide +kernel), List.mem_of_getElem? (i := 473) (by decide +kernel), List.mem_of_getElem? (i := 474) (by decide +kernel)⟩
theorem lw_p8 : lw_okq (⟨"FableIndex$Land", "admitted", "(LFableIndex$Book;II)I"⟩, 7) := ⟨⟨by decide +kernel, by decide +kernel⟩, List.mem_of_getElem? (i := 62) (by decide +kernel), List.mem_of_getElem? (i := 477) (by decide +kernel), List.mem_of_getElem? (i := 478) (by decide +kernel)⟩
theorem lw_p9 : lw_okq (⟨"FableIndex", "tellingsOfTrial", "(I)I"⟩, 4) := ⟨⟨by decide +kernel, by decide +kernel⟩, List.mem_of_getElem? (i := 14) (by decide +kernel), List.mem_of_getElem? (i := 592) (by decide +kernel), List.mem_of_getElem? (i := 593) (by decide +kernel)⟩
theorem lw_p10 : lw_okq (⟨"FableIndex", "tellingsWithPass", "(III)I"⟩, 4) := ⟨⟨by decide +kernel, by decide +kernel⟩, List.mem_of_getElem? (i := 14) (by decide +kernel), List.mem_of_getElem? (i := 603) (by decide +kernel), List.mem_of_getElem? (i := 604) (by decide +kernel)⟩
theorem lw_p11 : lw_okq (⟨"FableIndexModel", "fail", "(I)I"⟩, 14) := ⟨⟨by decide +kernel, by decide +kernel⟩, List.mem_of_getElem? (i := 607) (by decide +kernel), List.mem_of_getElem? (i := 676) (by decide +kernel), List.mem_of_getElem? (i := 677) (by decide +kernel)⟩
theorem lw_p12 : lw_okq (⟨"FableIndexModel", "write", "(IIII)I"⟩, 14) := ⟨⟨by decide +kernel, by decide +kernel⟩, List.mem_of_getElem? (i := 607) (by decide +kernel), List.mem_of_getElem? (i := 680) (by decide +kernel), List.mem_of_getElem? (i := 681) (by decide +kernel)⟩
theorem lw_p13 : lw_okq (⟨"FableIndexModel", "isFable", "(I)Z"⟩, 14) := ⟨⟨by decide +kernel, by decide +kernel⟩, List.mem_of_getElem? (i := 607) (by decide +kernel), List.mem_of_getElem? (i := 688) (by decide +kernel), List.mem_of_getElem? (i := 689) (by decide +kernel)⟩
theorem lw_p14 : lw_okq (⟨"FableIndexModel", "children", "(I)I"⟩, 14) := ⟨⟨by decide +kernel, by decide +kernel⟩, List.mem_of_getElem? (i := 607) (by decide +kernel), List.mem_of_getElem? (i := 695) (by decide +kernel), List.mem_of_getElem? (i := 696) (by decide +kernel)⟩
theorem lw_p15 : lw_okq (⟨"FableIndexModel", "failed", "(I)Z"⟩, 14) := ⟨⟨by decide +kernel, by decide +kernel⟩, List.mem_of_getElem? (i := 607) (by decide +kernel), List.mem_of_getElem? (i := 710) (by decide +kernel), List.mem_of_getElem? (i := 711) (by decide +kernel)⟩
def lw_privs_1 : List (MethodName × Nat) := [(⟨"FableIndex", "mixedWithFable", "(JI)J"⟩, 4), (⟨"FableIndex", "needFable", "(I)V"⟩, 4), (⟨"java/lang/Throwable", "fillInStackTrace", "(I)Ljava/lang/Throwable;"⟩, 6), (⟨"FableIndex", "mixedWithValley", "(JI)J"⟩, 4), (⟨"FableIndex", "needFreePage", "()V"⟩, 4), (⟨"FableIndex$Land", "hush", "()V"⟩, 7), (⟨"FableIndex$Land", "spread", "(LFableIndex$Book;)Z"⟩, 7), (⟨"FableIndex$Land", "arriving", "(I)I"⟩, 7), (⟨"FableIndex$Land", "admitted", "(LFableIndex$Book;II)I"⟩, 7), (⟨"FableIndex", "tellingsOfTrial", "(I)I"⟩, 4), (⟨"FableIndex", "tellingsWithPass", "(III)I"⟩, 4), (⟨"FableIndexModel", "fail", "(I)I"⟩, 14), (⟨"FableIndexModel", "write", "(IIII)I"⟩, 14), (⟨"FableIndexModel", "isFable", "(I)Z"⟩, 14), (⟨"FableIndexModel", "children", "(I)I"⟩, 14), (⟨"FableIndexModel", "failed", "(I)Z"⟩, 14)]
theorem lw_r1 : ∀ q ∈ lw_privs_1, lw_okq q := List.forall_mem_cons.mpr ⟨lw_p0, List.forall_mem_cons.mpr ⟨lw_p1, List.forall_mem_cons.mpr ⟨lw_p2, List.forall_mem_cons.mpr ⟨lw_p3, List.forall_mem_cons.mpr ⟨lw_p4, List.forall_mem_cons.mpr ⟨lw_p5, List.forall_mem_cons.mpr ⟨lw_p6, List.forall_mem_cons.mpr ⟨lw_p7, List.forall_mem_cons.mpr ⟨lw_p8, List.forall_mem_cons.mpr ⟨lw_p9, List.forall_mem_cons.mpr ⟨lw_p10, List.forall_mem_cons.mpr ⟨lw_p11, List.forall_mem_cons.mpr ⟨lw_p12, List.forall_mem_cons.mpr ⟨lw_p13, List.forall_mem_cons.mpr ⟨lw_p14, List.forall_mem_cons.mpr ⟨lw_p15, fun _ h => absurd h List.not_mem_nil⟩⟩⟩⟩⟩⟩⟩⟩⟩⟩⟩⟩⟩⟩⟩⟩
theorem lw_p16 : lw_okq (⟨"FableIndexModel", "isPlace", "(II)Z"⟩, 14) := ⟨⟨by decide +kernel, by decide +kernel⟩, List.mem_of_getElem? (i := 607) (by decide +kernel), List.mem_of_getElem? (i := 726) (by decide +kernel), List.mem_of_getElem? (i := 727) (by decide +kernel)⟩
theorem lw_p17 : lw_okq (⟨"FableIndexModel", "banned", "(II)Z"⟩, 14) := ⟨⟨by decide +kernel, by decide +kernel⟩, List.mem_of_getElem? (i := 607) (by decide +kernel), List.mem_of_getElem? (i := 730) (by decide +kernel), List.mem_of_getElem? (i := 731) (by decide +kernel)⟩
theorem lw_p18 : lw_okq (⟨"FableIndexModel", "placesOf", "(I)I"⟩, 14) := ⟨⟨by decide +kernel, by decide +kernel⟩, List.mem_of_getElem? (i := 607) (by decide +kernel), List.mem_of_getElem? (i := 734) (by decide +kernel), List.mem_of_getElem? (i := 735) (by decide +kernel)⟩
theorem lw_p19 : lw_okq (⟨"FableIndexModel", "seasonOn", "()I"⟩, 14) := ⟨⟨by decide +kernel, by decide +kernel⟩, List.mem_of_getElem? (i := 607) (by decide +kernel), List.mem_of_getElem? (i := 746) (by decide +kernel), List.mem_of_getElem? (i := 747) (by decide +kernel)⟩
theorem lw_p20 : lw_okq (⟨"FableIndexModel", "comes", "(II)I"⟩, 14) := ⟨⟨by decide +kernel, by decide +kernel⟩, List.mem_of_getElem? (i := 607) (by decide +kernel), List.mem_of_getElem? (i := 750) (by decide +kernel), List.mem_of_getElem? (i := 751) (by decide +kernel)⟩
theorem lw_p21 : lw_okq (⟨"FableIndexModel", "all", "()I"⟩, 14) := ⟨⟨by decide +kernel, by decide +kernel⟩, List.mem_of_getElem? (i := 607) (by decide +kernel), List.mem_of_getElem? (i := 757) (by decide +kernel), List.mem_of_getElem? (i := 758) (by decide +kernel)⟩
theorem lw_p22 : lw_okq (⟨"FableIndexModel", "nearest", "(II)I"⟩, 14) := ⟨⟨by decide +kernel, by decide +kernel⟩, List.mem_of_getElem? (i := 607) (by decide +kernel), List.mem_of_getElem? (i := 793) (by decide +kernel), List.mem_of_getElem? (i := 794) (by decide +kernel)⟩
theorem lw_p23 : lw_okq (⟨"FableIndexModel", "ancestors", "(I)I"⟩, 14) := ⟨⟨by decide +kernel, by decide +kernel⟩, List.mem_of_getElem? (i := 607) (by decide +kernel), List.mem_of_getElem? (i := 797) (by decide +kernel), List.mem_of_getElem? (i := 798) (by decide +kernel)⟩
theorem lw_p24 : lw_okq (⟨"FableIndexModel", "allowed", "(I)I"⟩, 14) := ⟨⟨by decide +kernel, by decide +kernel⟩, List.mem_of_getElem? (i := 607) (by decide +kernel), List.mem_of_getElem? (i := 829) (by decide +kernel), List.mem_of_getElem? (i := 830) (by decide +kernel)⟩
theorem lw_p25 : lw_okq (⟨"FableIndexModel", "bansIn", "(I)I"⟩, 14) := ⟨⟨by decide +kernel, by decide +kernel⟩, List.mem_of_getElem? (i := 607) (by decide +kernel), List.mem_of_getElem? (i := 837) (by decide +kernel), List.mem_of_getElem? (i := 838) (by decide +kernel)⟩
theorem lw_p26 : lw_okq (⟨"FableIndexModel", "favourite", "(Z)I"⟩, 14) := ⟨⟨by decide +kernel, by decide +kernel⟩, List.mem_of_getElem? (i := 607) (by decide +kernel), List.mem_of_getElem? (i := 869) (by decide +kernel), List.mem_of_getElem? (i := 870) (by decide +kernel)⟩
theorem lw_p27 : lw_okq (⟨"FableIndexModel", "keep", "()V"⟩, 14) := ⟨⟨by decide +kernel, by decide +kernel⟩, List.mem_of_getElem? (i := 607) (by decide +kernel), List.mem_of_getElem? (i := 881) (by decide +kernel), List.mem_of_getElem? (i := 882) (by decide +kernel)⟩
theorem lw_p28 : lw_okq (⟨"FableIndexModel", "bringBack", "()V"⟩, 14) := ⟨⟨by decide +kernel, by decide +kernel⟩, List.mem_of_getElem? (i := 607) (by decide +kernel), List.mem_of_getElem? (i := 885) (by decide +kernel), List.mem_of_getElem? (i := 886) (by decide +kernel)⟩
theorem lw_p29 : lw_okq (⟨"FableIndexModel", "after", "(I)I"⟩, 14) := ⟨⟨by decide +kernel, by decide +kernel⟩, List.mem_of_getElem? (i := 607) (by decide +kernel), List.mem_of_getElem? (i := 893) (by decide +kernel), List.mem_of_getElem? (i := 894) (by decide +kernel)⟩
def lw_privs_2 : List (MethodName × Nat) := [(⟨"FableIndexModel", "isPlace", "(II)Z"⟩, 14), (⟨"FableIndexModel", "banned", "(II)Z"⟩, 14), (⟨"FableIndexModel", "placesOf", "(I)I"⟩, 14), (⟨"FableIndexModel", "seasonOn", "()I"⟩, 14), (⟨"FableIndexModel", "comes", "(II)I"⟩, 14), (⟨"FableIndexModel", "all", "()I"⟩, 14), (⟨"FableIndexModel", "nearest", "(II)I"⟩, 14), (⟨"FableIndexModel", "ancestors", "(I)I"⟩, 14), (⟨"FableIndexModel", "allowed", "(I)I"⟩, 14), (⟨"FableIndexModel", "bansIn", "(I)I"⟩, 14), (⟨"FableIndexModel", "favourite", "(Z)I"⟩, 14), (⟨"FableIndexModel", "keep", "()V"⟩, 14), (⟨"FableIndexModel", "bringBack", "()V"⟩, 14), (⟨"FableIndexModel", "after", "(I)I"⟩, 14)]
theorem lw_r2 : ∀ q ∈ lw_privs_2, lw_okq q := List.forall_mem_cons.mpr ⟨lw_p16, List.forall_mem_cons.mpr ⟨lw_p17, List.forall_mem_cons.mpr ⟨lw_p18, List.forall_mem_cons.mpr ⟨lw_p19, List.forall_mem_cons.mpr ⟨lw_p20, List.forall_mem_cons.mpr ⟨lw_p21, List.forall_mem_cons.mpr ⟨lw_p22, List.forall_mem_cons.mpr ⟨lw_p23, List.forall_mem_cons.mpr ⟨lw_p24, List.forall_mem_cons.mpr ⟨lw_p25, List.forall_mem_cons.mpr ⟨lw_p26, List.forall_mem_cons.mpr ⟨lw_p27, List.forall_mem_cons.mpr ⟨lw_p28, List.forall_mem_cons.mpr ⟨lw_p29, fun _ h => absurd h List.not_mem_nil⟩⟩⟩⟩⟩⟩⟩⟩⟩⟩⟩⟩⟩⟩
def lw_privs : List (MethodName × Nat) := lw_privs_1 ++ (lw_privs_2)
def lw_tbl : List Cond := k2_sels lw_privs ++ tables_1
theorem lw_privs_ok : ∀ q ∈ lw_privs, lw_okq q := by
  show ∀ q ∈ lw_privs_1 ++ (lw_privs_2), lw_okq q
  exact List.forall_mem_append.mpr ⟨lw_r1, lw_r2⟩
/-- the streams that the claim lets the run draw from -/
abbrev lw_cs : List Choice := [Jvm.Choice.named "NaN.bits"]
theorem lw_bits : nanBits ∈ lw_cs := by first | decide | exact List.mem_cons_self | simp [lw_cs, nanBits]
-- ===== end of PART A; then your names; then what follows =====
end
section
/-! ===== BEGIN words of one list among another's, by their places ===== -/
theorem goodIn_r {big : List Cond} (ws : List Cond) (ps : List Nat) (hp : ws = ps.filterMap (fun i => big[i]?)) (h : ws.all goodWord = true) : GoodIn big ws := by
  intro w hw
  have h1 := List.all_eq_true.mp h w hw
  rw [hp] at hw
  obtain ⟨i, -, hi⟩ := List.mem_filterMap.mp hw
  have hm : w ∈ big := by first | exact List.mem_of_getElem? hi | exact List.getElem?_mem hi
  exact ⟨hm, good_of_word h1⟩
theorem goodIn_app {big a b : List Cond} (ha : GoodIn big a) (hb : GoodIn big b) : GoodIn big (a ++ b) := fun w h => (List.mem_append.mp h).elim (ha w) (hb w)
theorem goodIn_ca {big a b : List Cond} {c : Cond} (ha : GoodIn big (c :: a)) (hb : GoodIn big b) : GoodIn big (c :: (a ++ b)) := fun w h => (List.mem_cons.mp h).elim (fun e => ha w (List.mem_cons.mpr (Or.inl e))) (fun h => (List.mem_append.mp h).elim (fun h => ha w (List.mem_cons.mpr (Or.inr h))) (hb w))
theorem goodIn_sub {big ws : List Cond} (hm : ∀ w ∈ ws, w ∈ big) (h : ws.all goodWord = true) : GoodIn big ws := fun w hw => ⟨hm w hw, good_of_word (List.all_eq_true.mp h w hw)⟩
/-! ===== END ===== -/

/-! ===== BEGIN exceptions that leave a method, and their catching by the caller (launches without stack traces) ===== -/
section VXA
/-! The laws vx_back, vx_callV, vx_callS, vx_callSW, vx_throw0, vx_throwS follow proofs of the library, with one case more: JvmDerived/Free/Laws.lean (Back.of_free), Shelf42/LK1.lean (callV, callS), Shelf/KitTraced.lean (throwNew0V, throwNewS). -/
/-- where a method has thrown q: the class by its name, the cell, what was written, the world -/
def vx_T (XC : String → State → State → Prop) (st : State) (q : Addr) (t : State) (mc ms : Nat) (free : Addr → Prop) : Prop :=
  ∃ (E : String) (ce : Cell) (L : List Loc), XC E st t ∧ t.heap[q]? = some ce ∧ ce.vm = .none ∧ st.vm.findClass E = some ce.cls ∧ st.WarmedH t.vm ∧ st.sameButNew ({ t with vm := st.vm } : State) L mc ms ∧ ∀ z ∈ L, free z.base
def vx_Q (Qc : Array Value → State → Outcome → State → Prop) (XC : String → State → State → Prop) (mc ms : Nat) (free : Addr → Prop) : Array Value → State → Outcome → State → Prop := fun a st o t =>
  (Qc a st o t ∧ ∃ L, FrameEnd st o t L mc ms ∧ ∀ q ∈ L, free q.base) ∨ ∃ q, o = .threw q ∧ vx_T XC st q t mc ms free
/-- a callee that returns or throws -/
def vx_Met (l : Launch) (y : MethodName) (ws : List Cond) (rm : Room) (Pc : Array Value → State → Prop) (Qc : Array Value → State → Outcome → State → Prop) (XC : String → State → State → Prop) (mc ms : Nat) (free : Addr → Prop) : Prop :=
  MetFree l y (headSpec ws rm) Pc (fun _ _ _ _ _ => True) (vx_Q Qc XC mc ms free)
def vx_Post (XC : String → State → State → Prop) (mc ms : Nat) (free : Addr → Prop) : Pt → Array Value → Addr → Pt → Prop := fun A a q B =>
  ∃ (g : JFrame) (mk : MethodId) (t : State) (L : List Loc) (E : String) (ce : Cell), B.U.heap = t.heap ∧ B.U.vm = t.vm ∧ XC E (A.U.calling g mk a) t ∧ t.heap[q]? = some ce ∧ ce.vm = .none ∧ A.U.vm.findClass E = some ce.cls ∧ B.locs = A.locs ++ L ∧ (∀ z ∈ L, free z.base) ∧ B.cells = A.cells + mc ∧ B.slots = A.slots + ms
def vx_Back (l : Launch) (R : Room) (p : Program) (e : Env) (below : List Frame) (s : State) (sargs : Array Value) (y : MethodName) (len W9 : Nat)
    (Pre : Pt → Array Value → Prop) (Post : Pt → Array Value → Option Value → Pt → Prop) (PostX : Pt → Array Value → Addr → Pt → Prop) : Prop :=
  ∀ (m : MethodId) (meth : Method) (c : Code) (A : Pt) (g : JFrame) (ig : Instr) (mk : MethodId) (a : Array Value),
    Stand p l e R s m sargs below meth c A.U A.locs A.cells A.slots → g.method = m → g.locals.size = c.maxLocals → decode c.code g.pc = .ok (ig, len) →
    2 * g.monitorRoom + (g.stack.map fun v => v.category).sum ≤ W9 → A.U.methodNamed? y = some mk → Pre A a →
    (∃ (v : Option Value) (B : Pt), Stand p l e R s m sargs below meth c B.U B.locs B.cells B.slots ∧ Post A a v B ∧
      Steps p.tables e below (doInvoke e (A.U.setTop g) [] mk a).1 (B.U.setTop { g with pc := g.pc + len, stack := v.toList ++ g.stack })) ∨
    (∃ (q : Addr) (B : Pt), Stand p l e R s m sargs below meth c B.U B.locs B.cells B.slots ∧ PostX A a q B ∧
      Steps p.tables e below (doInvoke e (A.U.setTop g) [] mk a).1 ((B.U.setTop g).pushFrame (.throwing q)))
section Payer
variable {l : Launch} {R : Room} {p : Program} {e : Env} {below : List Frame} {s : State} {sargs : Array Value} {y : MethodName} {len W9 : Nat}
theorem vx_back {ws : List Cond} {rm : Room} {Pc : Array Value → State → Prop} {Qc : Array Value → State → Outcome → State → Prop} {XC : String → State → State → Prop} {mc ms : Nat} {free : Addr → Prop} {bytes : ByteArray} {maxL : Nat} {ret : Option FieldType}
    (hM : vx_Met l y ws rm Pc Qc XC mc ms free) (hblind : FrameBlind Pc) (hrc : rm.cells = mc) (hrs : rm.slots = ms)
    (hframes : rm.frames + 1 ≤ R.frames) (hlocals : W9 + (maxL + 11) + rm.locals ≤ R.locals)
    (hws : ∀ w ∈ ws, ∀ a' U, s.WarmedH U.vm → w.before a' U = true) (hcode : Cond.code y bytes maxL ret ∈ ws) (hinit : ∀ a' U, s.WarmedH U.vm → (Cond.initialized y.cls).before a' U = true) :
    vx_Back l R p e below s sargs y len W9 (PreOf R mc ms Pc) (PostOf Qc mc ms free) (vx_Post XC mc ms free) := by
  intro m meth c A g ig mk a X hg hsize hdg hW hn hp
  have h1 : (headSpec ws rm).pre.before a A.U = true := atoms_intro fun w hw => hws w hw _ _ X.warmed
  have h2 : (Cond.code y bytes maxL ret).before a A.U = true := hws _ hcode _ _ X.warmed
  have h3 : (Cond.initialized y.cls).before a A.U = true := hinit _ _ X.warmed
  have h4 : A.cells + (headSpec ws rm).room.cells ≤ R.cells := by rw [show (headSpec ws rm).room.cells = mc from hrc]; exact hp.1
  have h5 : A.slots + (headSpec ws rm).room.slots ≤ R.slots := by rw [show (headSpec ws rm).room.slots = ms from hrs]; exact hp.2.1
  have hPc : Pc a (A.U.calling g mk a) := hblind _ _ _ _ hp.2.2
  obtain ⟨U, Ls, c0, s0⟩ := A
  dsimp only [Pt.U, Pt.locs, Pt.cells, Pt.slots] at h1 h2 h3 h4 h5 X hn hPc ⊢
  obtain ⟨methY, cY, hmY, hcY, -, hlY, -, -, -, -⟩ := Cond.code_spec hn h2
  obtain ⟨kY, hkY, -⟩ := className_of_methodNamed hn
  have hinitY : kY.init = .initialized := Cond.initialized_spec (findClass_of_methodNamed hn) hkY h3
  have h : At U g.method c below := by rw [hg]; exact X.here
  have hlocals9 : W9 + (maxL + 11) + (headSpec ws rm).room.locals ≤ R.locals := hlocals
  have happ : (headSpec ws rm).appliesLoose y e.platform (U.calling g mk a) = true :=
    Spec.appliesLoose_calling (g := g) h hdg hn hkY hinitY
      (X.room_calling (g := g) (R' := (headSpec ws rm).room) hsize hmY hcY hframes (by rw [hlY]; omega) h4 h5) h1
  obtain ⟨mid, hmid⟩ := h.above
  have hfr : (U.setTop g).frames = (.java g :: mid) ++ below := by rw [State.frames_setTop' g h.top, hmid]; rfl
  obtain ⟨o, s₂, hsteps, -, hend, hq⟩ := Steps.callFree hM p X.admits X.cas X.clock (acts := []) hfr happ hPc trivial
  have hq' : vx_Q Qc XC mc ms free a (U.calling g mk a) o s₂ := hq
  rw [State.frames_setTop' g h.top] at hend
  obtain ⟨g₀, hg0⟩ := Option.isSome_iff_exists.mp h.top
  obtain ⟨r, hr⟩ := State.topJava?_eq_some.mp hg0
  have hr' : (({ U with heap := s₂.heap, slotsUsed := s₂.slotsUsed } : State).setVm s₂.vm).frames = .java g₀ :: r := hr
  rcases hq' with ⟨hqc, L, hfe, hL⟩ | ⟨q, rfl, E, ce, L, hx, hce, hcv, hcl, hW₂, hsm, hL⟩
  · obtain ⟨⟨v, rfl⟩, hW₂, e2, q2, q3, q4, q5, q6⟩ := id hfe
    have e3 : s₂ = ({ (U.calling g mk a).setFrames s₂.frames with heap := s₂.heap, slotsUsed := s₂.slotsUsed } : State).setVm s₂.vm := by
      have : s₂ = ({ s₂ with vm := (U.calling g mk a).vm } : State).setVm s₂.vm := rfl
      rw [e2] at this
      exact this
    obtain ⟨c₂, i₂, len₂, hc₂, hd₂, hf₂⟩ := hend
    have hW' : U.WarmedH s₂.vm := hW₂
    have hcc : c₂ = c := by
      have h1 : s₂.code? g.method = U.code? g.method := by
        rw [State.code?_eq, State.code?_eq, hW'.alike.method?]
      exact Option.some.inj (hc₂.symm.trans (h1.trans h.code))
    subst hcc
    have hlen : len₂ = len := by rw [hdg] at hd₂; cases hd₂; rfl
    subst hlen
    have hs₂ : s₂ = (({ U with heap := s₂.heap, slotsUsed := s₂.slotsUsed } : State).setVm s₂.vm).setTop { g with pc := g.pc + len₂, stack := v.toList ++ g.stack } := by
      refine e3.trans ?_
      rw [hf₂, State.calling_eq h.top, State.setFrames_setFrames, State.setTop_of_frames _ hr', hr]
      rfl
    have hsame : U.sameButNew ({ U with heap := s₂.heap, slotsUsed := s₂.slotsUsed } : State) L mc ms := by
      refine ⟨?_, q2, q3, q4, q5, q6⟩
      obtain ⟨t, ht, -⟩ := State.frames_cons hr
      show ({ U with heap := s₂.heap, slotsUsed := s₂.slotsUsed } : State) = { U.setFrames U.frames with heap := s₂.heap, slotsUsed := s₂.slotsUsed }
      rw [State.setFrames_self ht]
    subst hg
    refine Or.inl ⟨v, ⟨(({ U with heap := s₂.heap, slotsUsed := s₂.slotsUsed } : State).setVm s₂.vm), Ls ++ L, c0 + mc, s0 + ms⟩,
      ⟨X.admits, X.cas, X.clock, X.frames, X.room, X.hears, X.method, X.code, (X.here.setHeapUsed s₂.heap s₂.slotsUsed).setVm hW'.alike, X.tail, State.WarmedH.trans X.warmed hW', X.limits, X.bytes, X.same.trans (hsame.setVm s.vm)⟩,
      ⟨g, mk, s₂, L, rfl, rfl, hqc, rfl, hL, rfl, rfl⟩, ?_⟩
    show Steps p.tables e below _ ((({ U with heap := s₂.heap, slotsUsed := s₂.slotsUsed } : State).setVm s₂.vm).setTop { g with pc := g.pc + len₂, stack := v.toList ++ g.stack })
    rw [← hs₂]
    exact hsteps
  · obtain ⟨e2, q2, q3, q4, q5, q6⟩ := id hsm
    have e3 : s₂ = ({ (U.calling g mk a).setFrames s₂.frames with heap := s₂.heap, slotsUsed := s₂.slotsUsed } : State).setVm s₂.vm := by
      have : s₂ = ({ s₂ with vm := (U.calling g mk a).vm } : State).setVm s₂.vm := rfl
      rw [e2] at this
      exact this
    have hf₂ : s₂.frames = .throwing q :: .java g :: U.frames.tail := hend
    have hW' : U.WarmedH s₂.vm := hW₂
    have hs₂ : s₂ = ((({ U with heap := s₂.heap, slotsUsed := s₂.slotsUsed } : State).setVm s₂.vm).setTop g).pushFrame (.throwing q) := by
      refine e3.trans ?_
      rw [hf₂, State.calling_eq h.top, State.setFrames_setFrames, State.pushFrame, State.frames_setTop _ hr', State.setTop_of_frames _ hr', State.setFrames_setFrames, hr]
      rfl
    have hsame : U.sameButNew ({ U with heap := s₂.heap, slotsUsed := s₂.slotsUsed } : State) L mc ms := by
      refine ⟨?_, q2, q3, q4, q5, q6⟩
      obtain ⟨t, ht, -⟩ := State.frames_cons hr
      show ({ U with heap := s₂.heap, slotsUsed := s₂.slotsUsed } : State) = { U.setFrames U.frames with heap := s₂.heap, slotsUsed := s₂.slotsUsed }
      rw [State.setFrames_self ht]
    subst hg
    refine Or.inr ⟨q, ⟨(({ U with heap := s₂.heap, slotsUsed := s₂.slotsUsed } : State).setVm s₂.vm), Ls ++ L, c0 + mc, s0 + ms⟩,
      ⟨X.admits, X.cas, X.clock, X.frames, X.room, X.hears, X.method, X.code, (X.here.setHeapUsed s₂.heap s₂.slotsUsed).setVm hW'.alike, X.tail, State.WarmedH.trans X.warmed hW', X.limits, X.bytes, X.same.trans (hsame.setVm s.vm)⟩,
      ⟨g, mk, s₂, L, E, ce, rfl, rfl, hx, hce, hcv, hcl, rfl, hL, rfl, rfl⟩, ?_⟩
    show Steps p.tables e below _ (((({ U with heap := s₂.heap, slotsUsed := s₂.slotsUsed } : State).setVm s₂.vm).setTop g).pushFrame (.throwing q))
    rw [← hs₂]
    exact hsteps
end Payer
section Calls
variable {p : Program} {l : Launch} {e : Env} {R : Room} {s : State} {m : MethodId} {args : Array Value} {below : List Frame} {meth : Method} {c : Code} {T : State} {locs : List Loc} {cells slots : Nat}
theorem vx_callV (X : Stand p l e R s m args below meth c T locs cells slots) (hexec : p.tables.exec = Jvm.exec) {own C : String} {index : Nat} {y : MethodName} {bytes : ByteArray} {maxL : Nat} {ret : Option FieldType}
    (hown : s.vm.findClass own = some m.cls) (hlink : (Cond.methodLink own index y).before args s = true) (hinst : (Cond.instanceMethod y).before args s = true) (hsel : (Cond.selects C y y).before args s = true)
    (hcode : (Cond.code y bytes maxL ret).before args s = true) (hy : y.cls ≠ "java/lang/invoke/MethodHandle" ∧ y.cls ≠ "java/lang/invoke/VarHandle")
    {W9 : Nat} {Pre : Pt → Array Value → Prop} {Post : Pt → Array Value → Option Value → Pt → Prop} {PostX : Pt → Array Value → Addr → Pt → Prop} (hK : vx_Back l R p e below s args y 3 W9 Pre Post PostX)
    {b : Addr} {cellB : Cell} (hcell : T.heap[b]? = some cellB) (hobj : cellB.vm.isStatics = false) (hcls : s.vm.findClass C = some cellB.cls)
    {g : JFrame} (hg : g.method = m) (hsize : g.locals.size = c.maxLocals) {argsL rest : List Value} (hlen : ∀ sig, parseMethodDescriptor y.desc = some sig → argsL.length = sig.parameters.length)
    (hstack : g.stack = argsL.reverse ++ .ref b :: rest) (hW : 2 * g.monitorRoom + (rest.map fun v => v.category).sum ≤ W9) (hdg : decode c.code g.pc = .ok (.invokevirtual index, 3))
    (hpre : ∀ vm₁, s.WarmedH vm₁ → Pre ⟨T.setVm vm₁, locs, cells, slots⟩ (Value.ref b :: argsL).toArray) :
    (∃ (v : Option Value) (vm₁ : Vm) (B : Pt), s.WarmedH vm₁ ∧ Stand p l e R s m args below meth c B.U B.locs B.cells B.slots ∧ Post ⟨T.setVm vm₁, locs, cells, slots⟩ (Value.ref b :: argsL).toArray v B ∧
      ∀ target, Steps p.tables e below (B.U.setTop { g with pc := g.pc + 3, stack := v.toList ++ rest }) target → Steps p.tables e below (T.setTop g) target) ∨
    (∃ (q : Addr) (vm₁ : Vm) (B : Pt), s.WarmedH vm₁ ∧ Stand p l e R s m args below meth c B.U B.locs B.cells B.slots ∧ PostX ⟨T.setVm vm₁, locs, cells, slots⟩ (Value.ref b :: argsL).toArray q B ∧
      Steps p.tables e below (T.setTop g) ((B.U.setTop { g with stack := rest }).pushFrame (.throwing q))) := by
  obtain ⟨mk, methM, hnamed, hmethM, hstM, habM⟩ := Cond.instanceMethod_spec hinst
  obtain ⟨methM', cM, hmethM', -, -, -, -, -, -, hsigM⟩ := Cond.code_spec hnamed hcode
  cases hmethM.symm.trans hmethM'
  obtain ⟨c2, r2, m2, q1, q2, q3, q4, kP, hkP, hkPi⟩ := Cond.selects_spec hsel
  cases hcls.symm.trans q1
  cases (State.methodFound?_of_named hnamed hy).symm.trans q2
  cases hnamed.symm.trans q3
  have hselP : selectMethod e.platform s.vm cellB.cls mk = .method mk := by rw [Launch.admits_selectMethod X.admits]; exact q4
  obtain ⟨vm₁, X₁, hstep₁⟩ := X.invokevirtual hexec hown hlink hnamed hmethM hstM hkP hkPi hy (a := b) (cell := cellB) hcell
    (fun z h => by rw [h] at hobj; cases hobj) hselP hmethM habM hkP hkPi (g := g) hg (argsL := argsL) (rest := rest) (hlen _ hsigM) hstack hdg
  rcases hK m meth c ⟨T.setVm vm₁, locs, cells, slots⟩ { g with stack := rest } (.invokevirtual index) mk (Value.ref b :: argsL).toArray X₁ hg hsize hdg hW (X₁.named hnamed) (hpre vm₁ X₁.warmed) with ⟨v, B, X', hpost, hsteps⟩ | ⟨q, B, X', hpost, hsteps⟩
  · exact Or.inl ⟨v, vm₁, B, X₁.warmed, X', hpost, fun target h => hstep₁ _ fun acts => by rw [doInvoke_state]; exact hsteps.trans h⟩
  · exact Or.inr ⟨q, vm₁, B, X₁.warmed, X', hpost, hstep₁ _ fun acts => by rw [doInvoke_state]; exact hsteps⟩
theorem vx_callS (X : Stand p l e R s m args below meth c T locs cells slots) (hexec : p.tables.exec = Jvm.exec) {own : String} {index : Nat} {y : MethodName} {bytes : ByteArray} {maxL : Nat} {ret : Option FieldType}
    (hown : s.vm.findClass own = some m.cls) (hlink : (Cond.methodLink own index y).before args s = true) (hstat : (Cond.static y).before args s = true) (hinit : (Cond.initialized y.cls).before args s = true)
    (hcode : (Cond.code y bytes maxL ret).before args s = true) (hy : y.cls ≠ "java/lang/invoke/MethodHandle" ∧ y.cls ≠ "java/lang/invoke/VarHandle")
    {W9 : Nat} {Pre : Pt → Array Value → Prop} {Post : Pt → Array Value → Option Value → Pt → Prop} {PostX : Pt → Array Value → Addr → Pt → Prop} (hK : vx_Back l R p e below s args y 3 W9 Pre Post PostX)
    {g : JFrame} (hg : g.method = m) (hsize : g.locals.size = c.maxLocals) {argsL rest : List Value} (hlen : ∀ sig, parseMethodDescriptor y.desc = some sig → argsL.length = sig.parameters.length)
    (hstack : g.stack = argsL.reverse ++ rest) (hW : 2 * g.monitorRoom + (rest.map fun v => v.category).sum ≤ W9) (hdg : decode c.code g.pc = .ok (.invokestatic index, 3))
    (hpre : ∀ vm₁, s.WarmedH vm₁ → Pre ⟨T.setVm vm₁, locs, cells, slots⟩ argsL.toArray) :
    (∃ (v : Option Value) (vm₁ : Vm) (B : Pt), s.WarmedH vm₁ ∧ Stand p l e R s m args below meth c B.U B.locs B.cells B.slots ∧ Post ⟨T.setVm vm₁, locs, cells, slots⟩ argsL.toArray v B ∧
      ∀ target, Steps p.tables e below (B.U.setTop { g with pc := g.pc + 3, stack := v.toList ++ rest }) target → Steps p.tables e below (T.setTop g) target) ∨
    (∃ (q : Addr) (vm₁ : Vm) (B : Pt), s.WarmedH vm₁ ∧ Stand p l e R s m args below meth c B.U B.locs B.cells B.slots ∧ PostX ⟨T.setVm vm₁, locs, cells, slots⟩ argsL.toArray q B ∧
      Steps p.tables e below (T.setTop g) ((B.U.setTop { g with stack := rest }).pushFrame (.throwing q))) := by
  obtain ⟨mk, hnamed⟩ := Cond.code_named hcode
  obtain ⟨methM, cM, hmethM, -, -, -, -, -, -, hsigM⟩ := Cond.code_spec hnamed hcode
  have hstatic : methM.isStatic = true := Cond.static_spec hnamed hmethM hstat
  obtain ⟨kP, hkP, -⟩ := className_of_methodNamed hnamed
  have hinitP : kP.init = .initialized := Cond.initialized_spec (findClass_of_methodNamed hnamed) hkP hinit
  obtain ⟨vm₁, X₁, hstep₁⟩ := X.invokestatic hexec hown hlink hnamed hmethM hstatic hkP hinitP hy (g := g) hg (argsL := argsL) (rest := rest) (hlen _ hsigM) hstack hdg
  rcases hK m meth c ⟨T.setVm vm₁, locs, cells, slots⟩ { g with stack := rest } (.invokestatic index) mk argsL.toArray X₁ hg hsize hdg hW (X₁.named hnamed) (hpre vm₁ X₁.warmed) with ⟨v, B, X', hpost, hsteps⟩ | ⟨q, B, X', hpost, hsteps⟩
  · exact Or.inl ⟨v, vm₁, B, X₁.warmed, X', hpost, fun target h => hstep₁ _ fun acts => by rw [doInvoke_state]; exact hsteps.trans h⟩
  · exact Or.inr ⟨q, vm₁, B, X₁.warmed, X', hpost, hstep₁ _ fun acts => by rw [doInvoke_state]; exact hsteps⟩
end Calls
theorem vx_cls {s : State} {T : State} {vm₁ : Vm} {E : String} {k : ClassId} (hW : s.WarmedH vm₁) (h : (T.setVm vm₁).vm.findClass E = some k) : s.vm.findClass E = some k := by
  have h1 : vm₁.findClass E = some k := h
  rw [hW.alike.findClass] at h1
  exact h1
/-- the method's frame g, with q thrown over it -/
def vx_W (p : Program) (l : Launch) (e : Env) (R : Room) (s : State) (m : MethodId) (args : Array Value) (below : List Frame) (meth : Method) (c : Code) (H : Heap) (locs : List Loc) (cells slots : Nat) (Q : State → Prop) (g : JFrame) (q : Addr) : Prop :=
  ∀ T : State, T.heap = H → Stand p l e R s m args below meth c T locs cells slots → ∃ t, Steps p.tables e below ((T.setTop g).pushFrame (.throwing q)) t ∧ Q t
def vx_Run (p : Program) (l : Launch) (e : Env) (R : Room) (s : State) (m : MethodId) (args : Array Value) (below : List Frame) (meth : Method) (c : Code) (H : Heap) (locs : List Loc) (cells slots mc ms : Nat) (g : JFrame) (rest : List Value) (Qa : State → Outcome → State → Prop) (XC : String → State → State → Prop) (free : Addr → Prop) : Prop :=
  ∀ T : State, T.heap = H → Stand p l e R s m args below meth c T locs cells slots →
    (∃ (v : Option Value) (st₀ t T' : State) (L : List Loc), st₀.heap = H ∧ Stand p l e R s m args below meth c T' (locs ++ L) (cells + mc) (slots + ms) ∧ (∀ q ∈ L, free q.base) ∧ T'.heap = t.heap ∧ T'.vm = t.vm ∧ Qa st₀ (.returned v) t ∧
      Goes p e below T g T' { g with pc := g.pc + 3, stack := v.toList ++ rest }) ∨
    (∃ (q : Addr) (st₀ t T' : State) (L : List Loc) (E : String) (ce : Cell), st₀.heap = H ∧ Stand p l e R s m args below meth c T' (locs ++ L) (cells + mc) (slots + ms) ∧ (∀ z ∈ L, free z.base) ∧ T'.heap = t.heap ∧ T'.vm = t.vm ∧ XC E st₀ t ∧ t.heap[q]? = some ce ∧ ce.vm = .none ∧ s.vm.findClass E = some ce.cls ∧
      Steps p.tables e below (T.setTop g) ((T'.setTop { g with stack := rest }).pushFrame (.throwing q)))
def vx_X {S : Type} (px : S → Prop) (B : String → S → State → Prop) (A : Nat → Prop) : String → State → State → Prop := fun E st t => ∃ u : S, px u ∧ B E u t ∧ va_F A st t
section Runs
variable {p : Program} {l : Launch} {e : Env} {R : Room} {s : State} {m : MethodId} {args : Array Value} {below : List Frame} {meth : Method} {c : Code} {H : Heap} {locs : List Loc} {cells slots : Nat}
variable {y : MethodName} {bytes cc : ByteArray} {maxL nL mc ms n index : Nat} {ret : Option FieldType} {ws : List Cond} {rm : Room} {Pc : Array Value → State → Prop} {Qc : Array Value → State → Outcome → State → Prop} {XC : String → State → State → Prop} {free : Addr → Prop} {Ts : List Cond} {own C : String} {b : Addr} {As rest : List Value} {g : JFrame}
theorem vx_callBack (cb : CallB R s args own index y bytes maxL ret ws rm mc ms n) (hM : vx_Met l y ws rm Pc Qc XC mc ms free) (hbl : FrameBlind Pc) : vx_Back l R p e below s args y 3 8 (PreOf R mc ms Pc) (PostOf Qc mc ms free) (vx_Post XC mc ms free) := by
  obtain ⟨hrc, hrs, hfr, hlo, hws, hcw, -, hini, -⟩ := cb
  exact vx_back (bytes := bytes) (maxL := maxL) (ret := ret) hM hbl hrc hrs hfr hlo hws hcw (fun a' U hW => word_at hW (Or.inl (by first | rfl | simp [Cond.onTables, Cond.keeps, Cond.steady])) hini)
theorem vx_runV (S : CallFix p m c cc nL s args Ts own) (hM : vx_Met l y ws rm Pc Qc XC mc ms free) (cw : CallW R s args own C index y bytes maxL ret ws rm mc ms n) (hp : PreV s H C b Pc As)
    (hg : g.method = m) (hn : As.length = n) (hsize : g.locals.size = nL) (hstack : g.stack = As.reverse ++ .ref b :: rest) (hW : 2 * g.monitorRoom + (rest.map fun v => v.category).sum ≤ 8) (hdg : decode cc g.pc = .ok (.invokevirtual index, 3)) (hf : cells + mc ≤ R.cells ∧ slots + ms ≤ R.slots) :
    vx_Run p l e R s m args below meth c H locs cells slots mc ms g rest (Qc (Value.ref b :: As).toArray) XC free := by
  have hK : vx_Back l R p e below s args y 3 8 (PreOf R mc ms Pc) (PostOf Qc mc ms free) (vx_Post XC mc ms free) := vx_callBack cw.1 hM hp.1
  obtain ⟨⟨-, -, -, -, -, -, hcode, -, hy, hlen, hl⟩, hin, hse⟩ := cw
  obtain ⟨hx, hb, hml, ho, -⟩ := S
  obtain ⟨-, ⟨cellB, hcB, hoB, hclB⟩, hPc⟩ := hp
  intro T hT X
  rcases vx_callV X hx (C := C) (bytes := bytes) (maxL := maxL) (ret := ret) ho hl hin hse hcode hy hK (by rw [hT]; exact hcB) hoB hclB hg (hsize.trans hml.symm) (argsL := As) (rest := rest) (fun sig h => hn.trans (hlen sig h)) hstack hW (by rw [hb]; exact hdg)
    (fun vm₁ hW₁ => ⟨hf.1, hf.2, hPc (T.setVm vm₁) hT hW₁⟩) with ⟨v, vm₁, ⟨U', l2, c2, s2⟩, hW₁, X', ⟨g', mk, t, L, e1, e2, hq, h1, hL, h2, h3⟩, st⟩ | ⟨q, vm₁, ⟨U', l2, c2, s2⟩, hW₁, X', ⟨g', mk, t, L, E, ce, e1, e2, hq, hce, hcv, hcl, h1, hL, h2, h3⟩, st⟩
  · dsimp only [Pt.U, Pt.locs, Pt.cells, Pt.slots] at X' e1 e2 h1 h2 h3 st
    subst h1; subst h2; subst h3
    exact Or.inl ⟨v, (T.setVm vm₁).calling g' mk (Value.ref b :: As).toArray, t, U', L, hT, X', hL, e1, e2, hq, st⟩
  · dsimp only [Pt.U, Pt.locs, Pt.cells, Pt.slots] at X' e1 e2 h1 h2 h3 st hcl
    subst h1; subst h2; subst h3
    exact Or.inr ⟨q, (T.setVm vm₁).calling g' mk (Value.ref b :: As).toArray, t, U', L, E, ce, hT, X', hL, e1, e2, hq, hce, hcv, vx_cls hW₁ hcl, st⟩
theorem vx_runS (S : CallFix p m c cc nL s args Ts own) (hM : vx_Met l y ws rm Pc Qc XC mc ms free) (cw : CallB R s args own index y bytes maxL ret ws rm mc ms n ∧ (Cond.static y).before args s = true) (hp : PreS s H Pc As)
    (hg : g.method = m) (hn : As.length = n) (hsize : g.locals.size = nL) (hstack : g.stack = As.reverse ++ rest) (hW : 2 * g.monitorRoom + (rest.map fun v => v.category).sum ≤ 8) (hdg : decode cc g.pc = .ok (.invokestatic index, 3)) (hf : cells + mc ≤ R.cells ∧ slots + ms ≤ R.slots) :
    vx_Run p l e R s m args below meth c H locs cells slots mc ms g rest (Qc As.toArray) XC free := by
  have hK : vx_Back l R p e below s args y 3 8 (PreOf R mc ms Pc) (PostOf Qc mc ms free) (vx_Post XC mc ms free) := vx_callBack cw.1 hM hp.1
  obtain ⟨⟨-, -, -, -, -, -, hcode, hini, hy, hlen, hl⟩, hstt⟩ := cw
  obtain ⟨hx, hb, hml, ho, -⟩ := S
  intro T hT X
  rcases vx_callS X hx (bytes := bytes) (maxL := maxL) (ret := ret) ho hl hstt hini hcode hy hK hg (hsize.trans hml.symm) (argsL := As) (rest := rest) (fun sig h => hn.trans (hlen sig h)) hstack hW (by rw [hb]; exact hdg)
    (fun vm₁ hW₁ => ⟨hf.1, hf.2, hp.2 (T.setVm vm₁) hT hW₁⟩) with ⟨v, vm₁, ⟨U', l2, c2, s2⟩, hW₁, X', ⟨g', mk, t, L, e1, e2, hq, h1, hL, h2, h3⟩, st⟩ | ⟨q, vm₁, ⟨U', l2, c2, s2⟩, hW₁, X', ⟨g', mk, t, L, E, ce, e1, e2, hq, hce, hcv, hcl, h1, hL, h2, h3⟩, st⟩
  · dsimp only [Pt.U, Pt.locs, Pt.cells, Pt.slots] at X' e1 e2 h1 h2 h3 st
    subst h1; subst h2; subst h3
    exact Or.inl ⟨v, (T.setVm vm₁).calling g' mk As.toArray, t, U', L, hT, X', hL, e1, e2, hq, st⟩
  · dsimp only [Pt.U, Pt.locs, Pt.cells, Pt.slots] at X' e1 e2 h1 h2 h3 st hcl
    subst h1; subst h2; subst h3
    exact Or.inr ⟨q, (T.setVm vm₁).calling g' mk As.toArray, t, U', L, E, ce, hT, X', hL, e1, e2, hq, hce, hcv, vx_cls hW₁ hcl, st⟩
end Runs
section Rows
variable {p : Program} {l : Launch} {e : Env} {R : Room} {s : State} {m : MethodId} {args : Array Value} {below : List Frame} {meth : Method} {c : Code} {H : Heap} {locs : List Loc} {cells slots : Nat} {Q : State → Prop}
variable {mc ms : Nat} {free : Addr → Prop} {A0 A1 : Nat → Prop} {H0 : Heap} {a : Array Value} {pc : Nat} {ls : Array Slot} {st0 rest : List Value}
theorem vx_keep {st₀ t T' : State} {L : List Loc} (h0 : st₀.heap = H) (e1 : T'.heap = t.heap) (hS : va_S A0 H0 H locs) (hA : ∀ q, q < H.size → A1 q → A0 q) (hf : ∀ q, free q → A0 q) (hL : ∀ q ∈ L, free q.base) (hF : va_F A1 st₀ t) :
    H.size ≤ T'.heap.size ∧ (∀ q : Nat, q < H.size → ¬ A1 q → T'.heap[q]? = H[q]?) ∧ va_S A0 H0 T'.heap (locs ++ L) := by
  obtain ⟨hz, hk⟩ := hF
  rw [h0] at hz hk
  exact ⟨by rw [e1]; exact hz, fun q h1 h2 => by rw [e1]; exact hk q h1 h2,
    ⟨Nat.le_trans hS.1 (by rw [e1]; exact hz), fun q h1 h2 => by rw [e1, hk q (Nat.lt_of_lt_of_le h1 hS.1) (fun z => h2 (hA q (Nat.lt_of_lt_of_le h1 hS.1) z))]; exact hS.2.1 q h1 h2, fun q hq => by
      rcases List.mem_append.mp hq with h | h
      · exact hS.2.2 q h
      · exact hf _ (hL q h)⟩⟩
theorem vx_calli {S SX : Type} {post : Int32 → S → Prop} {px : SX → Prop} {B : S → State → Prop} {BX : String → SX → State → Prop} {AX : Nat → Prop} (hr : vx_Run p l e R s m args below meth c H locs cells slots mc ms (F0 m pc ls st0) rest (va_Qi post B A1 a) (vx_X px BX AX) free) (hS : va_S A0 H0 H locs) (hA : ∀ q, q < H.size → A1 q → A0 q) (hf : ∀ q, free q → A0 q) (hAX : ∀ q, q < H.size → AX q → A0 q)
    (kx : ∀ (E : String) (ce : Cell) (q9 : Addr) (u : SX) (t : State) (H1 : Heap) (locs1 : List Loc), t.heap = H1 → s.vm.Alike t.vm → px u → BX E u t → H.size ≤ H1.size → (∀ q : Nat, q < H.size → ¬ AX q → H1[q]? = H[q]?) → va_S A0 H0 H1 locs1 → H1[q9]? = some ce → ce.vm = .none → s.vm.findClass E = some ce.cls → vx_W p l e R s m args below meth c H1 locs1 (cells + mc) (slots + ms) Q (F0 m pc ls rest) q9)
    (kk : ∀ (r : Int32) (u : S) (t : State) (H1 : Heap) (locs1 : List Loc), t.heap = H1 → s.vm.Alike t.vm → post r u → B u t → H.size ≤ H1.size → (∀ q : Nat, q < H.size → ¬ A1 q → H1[q]? = H[q]?) → va_S A0 H0 H1 locs1 → W p l e R s m args below meth c H1 locs1 (cells + mc) (slots + ms) Q (F0 m (pc + 3) ls (.int r :: rest))) : W p l e R s m args below meth c H locs cells slots Q (F0 m pc ls st0) := by
  intro T hT X
  rcases hr T hT X with ⟨v, st₀, t, T', L, h0, X', hL, e1, e2, ⟨⟨r, u, hv, hp, hb⟩, hF⟩, st⟩ | ⟨q, st₀, t, T', L, E, ce, h0, X', hL, e1, e2, ⟨u, hp, hb, hF⟩, hce, hcv, hcl, st⟩
  · cases hv
    obtain ⟨k1, k2, k3⟩ := vx_keep h0 e1 hS hA hf hL hF
    obtain ⟨t2, a1, b1⟩ := kk r u t T'.heap (locs ++ L) e1.symm (by rw [← e2]; exact X'.warmed.alike) hp hb k1 k2 k3 T' rfl X'
    exact ⟨t2, st t2 a1, b1⟩
  · obtain ⟨k1, k2, k3⟩ := vx_keep h0 e1 hS hAX hf hL hF
    obtain ⟨t2, a1, b1⟩ := kx E ce q u t T'.heap (locs ++ L) e1.symm (by rw [← e2]; exact X'.warmed.alike) hp hb k1 k2 k3 (by rw [e1]; exact hce) hcv hcl T' rfl X'
    exact ⟨t2, st.trans a1, b1⟩
theorem vx_calll {S SX : Type} {post : Int64 → S → Prop} {px : SX → Prop} {B : S → State → Prop} {BX : String → SX → State → Prop} {AX : Nat → Prop} (hr : vx_Run p l e R s m args below meth c H locs cells slots mc ms (F0 m pc ls st0) rest (va_Ql post B A1 a) (vx_X px BX AX) free) (hS : va_S A0 H0 H locs) (hA : ∀ q, q < H.size → A1 q → A0 q) (hf : ∀ q, free q → A0 q) (hAX : ∀ q, q < H.size → AX q → A0 q)
    (kx : ∀ (E : String) (ce : Cell) (q9 : Addr) (u : SX) (t : State) (H1 : Heap) (locs1 : List Loc), t.heap = H1 → s.vm.Alike t.vm → px u → BX E u t → H.size ≤ H1.size → (∀ q : Nat, q < H.size → ¬ AX q → H1[q]? = H[q]?) → va_S A0 H0 H1 locs1 → H1[q9]? = some ce → ce.vm = .none → s.vm.findClass E = some ce.cls → vx_W p l e R s m args below meth c H1 locs1 (cells + mc) (slots + ms) Q (F0 m pc ls rest) q9)
    (kk : ∀ (r : Int64) (u : S) (t : State) (H1 : Heap) (locs1 : List Loc), t.heap = H1 → s.vm.Alike t.vm → post r u → B u t → H.size ≤ H1.size → (∀ q : Nat, q < H.size → ¬ A1 q → H1[q]? = H[q]?) → va_S A0 H0 H1 locs1 → W p l e R s m args below meth c H1 locs1 (cells + mc) (slots + ms) Q (F0 m (pc + 3) ls (.long r :: rest))) : W p l e R s m args below meth c H locs cells slots Q (F0 m pc ls st0) := by
  intro T hT X
  rcases hr T hT X with ⟨v, st₀, t, T', L, h0, X', hL, e1, e2, ⟨⟨r, u, hv, hp, hb⟩, hF⟩, st⟩ | ⟨q, st₀, t, T', L, E, ce, h0, X', hL, e1, e2, ⟨u, hp, hb, hF⟩, hce, hcv, hcl, st⟩
  · cases hv
    obtain ⟨k1, k2, k3⟩ := vx_keep h0 e1 hS hA hf hL hF
    obtain ⟨t2, a1, b1⟩ := kk r u t T'.heap (locs ++ L) e1.symm (by rw [← e2]; exact X'.warmed.alike) hp hb k1 k2 k3 T' rfl X'
    exact ⟨t2, st t2 a1, b1⟩
  · obtain ⟨k1, k2, k3⟩ := vx_keep h0 e1 hS hAX hf hL hF
    obtain ⟨t2, a1, b1⟩ := kx E ce q u t T'.heap (locs ++ L) e1.symm (by rw [← e2]; exact X'.warmed.alike) hp hb k1 k2 k3 (by rw [e1]; exact hce) hcv hcl T' rfl X'
    exact ⟨t2, st.trans a1, b1⟩
theorem vx_callf {S SX : Type} {post : UInt32 → S → Prop} {px : SX → Prop} {B : S → State → Prop} {BX : String → SX → State → Prop} {AX : Nat → Prop} (hr : vx_Run p l e R s m args below meth c H locs cells slots mc ms (F0 m pc ls st0) rest (va_Qf post B A1 a) (vx_X px BX AX) free) (hS : va_S A0 H0 H locs) (hA : ∀ q, q < H.size → A1 q → A0 q) (hf : ∀ q, free q → A0 q) (hAX : ∀ q, q < H.size → AX q → A0 q)
    (kx : ∀ (E : String) (ce : Cell) (q9 : Addr) (u : SX) (t : State) (H1 : Heap) (locs1 : List Loc), t.heap = H1 → s.vm.Alike t.vm → px u → BX E u t → H.size ≤ H1.size → (∀ q : Nat, q < H.size → ¬ AX q → H1[q]? = H[q]?) → va_S A0 H0 H1 locs1 → H1[q9]? = some ce → ce.vm = .none → s.vm.findClass E = some ce.cls → vx_W p l e R s m args below meth c H1 locs1 (cells + mc) (slots + ms) Q (F0 m pc ls rest) q9)
    (kk : ∀ (r : UInt32) (u : S) (t : State) (H1 : Heap) (locs1 : List Loc), t.heap = H1 → s.vm.Alike t.vm → post r u → B u t → H.size ≤ H1.size → (∀ q : Nat, q < H.size → ¬ A1 q → H1[q]? = H[q]?) → va_S A0 H0 H1 locs1 → W p l e R s m args below meth c H1 locs1 (cells + mc) (slots + ms) Q (F0 m (pc + 3) ls (.float r :: rest))) : W p l e R s m args below meth c H locs cells slots Q (F0 m pc ls st0) := by
  intro T hT X
  rcases hr T hT X with ⟨v, st₀, t, T', L, h0, X', hL, e1, e2, ⟨⟨r, u, hv, hp, hb⟩, hF⟩, st⟩ | ⟨q, st₀, t, T', L, E, ce, h0, X', hL, e1, e2, ⟨u, hp, hb, hF⟩, hce, hcv, hcl, st⟩
  · cases hv
    obtain ⟨k1, k2, k3⟩ := vx_keep h0 e1 hS hA hf hL hF
    obtain ⟨t2, a1, b1⟩ := kk r u t T'.heap (locs ++ L) e1.symm (by rw [← e2]; exact X'.warmed.alike) hp hb k1 k2 k3 T' rfl X'
    exact ⟨t2, st t2 a1, b1⟩
  · obtain ⟨k1, k2, k3⟩ := vx_keep h0 e1 hS hAX hf hL hF
    obtain ⟨t2, a1, b1⟩ := kx E ce q u t T'.heap (locs ++ L) e1.symm (by rw [← e2]; exact X'.warmed.alike) hp hb k1 k2 k3 (by rw [e1]; exact hce) hcv hcl T' rfl X'
    exact ⟨t2, st.trans a1, b1⟩
theorem vx_calld {S SX : Type} {post : UInt64 → S → Prop} {px : SX → Prop} {B : S → State → Prop} {BX : String → SX → State → Prop} {AX : Nat → Prop} (hr : vx_Run p l e R s m args below meth c H locs cells slots mc ms (F0 m pc ls st0) rest (va_Qd post B A1 a) (vx_X px BX AX) free) (hS : va_S A0 H0 H locs) (hA : ∀ q, q < H.size → A1 q → A0 q) (hf : ∀ q, free q → A0 q) (hAX : ∀ q, q < H.size → AX q → A0 q)
    (kx : ∀ (E : String) (ce : Cell) (q9 : Addr) (u : SX) (t : State) (H1 : Heap) (locs1 : List Loc), t.heap = H1 → s.vm.Alike t.vm → px u → BX E u t → H.size ≤ H1.size → (∀ q : Nat, q < H.size → ¬ AX q → H1[q]? = H[q]?) → va_S A0 H0 H1 locs1 → H1[q9]? = some ce → ce.vm = .none → s.vm.findClass E = some ce.cls → vx_W p l e R s m args below meth c H1 locs1 (cells + mc) (slots + ms) Q (F0 m pc ls rest) q9)
    (kk : ∀ (r : UInt64) (u : S) (t : State) (H1 : Heap) (locs1 : List Loc), t.heap = H1 → s.vm.Alike t.vm → post r u → B u t → H.size ≤ H1.size → (∀ q : Nat, q < H.size → ¬ A1 q → H1[q]? = H[q]?) → va_S A0 H0 H1 locs1 → W p l e R s m args below meth c H1 locs1 (cells + mc) (slots + ms) Q (F0 m (pc + 3) ls (.double r :: rest))) : W p l e R s m args below meth c H locs cells slots Q (F0 m pc ls st0) := by
  intro T hT X
  rcases hr T hT X with ⟨v, st₀, t, T', L, h0, X', hL, e1, e2, ⟨⟨r, u, hv, hp, hb⟩, hF⟩, st⟩ | ⟨q, st₀, t, T', L, E, ce, h0, X', hL, e1, e2, ⟨u, hp, hb, hF⟩, hce, hcv, hcl, st⟩
  · cases hv
    obtain ⟨k1, k2, k3⟩ := vx_keep h0 e1 hS hA hf hL hF
    obtain ⟨t2, a1, b1⟩ := kk r u t T'.heap (locs ++ L) e1.symm (by rw [← e2]; exact X'.warmed.alike) hp hb k1 k2 k3 T' rfl X'
    exact ⟨t2, st t2 a1, b1⟩
  · obtain ⟨k1, k2, k3⟩ := vx_keep h0 e1 hS hAX hf hL hF
    obtain ⟨t2, a1, b1⟩ := kx E ce q u t T'.heap (locs ++ L) e1.symm (by rw [← e2]; exact X'.warmed.alike) hp hb k1 k2 k3 (by rw [e1]; exact hce) hcv hcl T' rfl X'
    exact ⟨t2, st.trans a1, b1⟩
theorem vx_callv {S SX : Type} {post : S → Prop} {px : SX → Prop} {B : S → State → Prop} {BX : String → SX → State → Prop} {AX : Nat → Prop} (hr : vx_Run p l e R s m args below meth c H locs cells slots mc ms (F0 m pc ls st0) rest (va_Qv post B A1 a) (vx_X px BX AX) free) (hS : va_S A0 H0 H locs) (hA : ∀ q, q < H.size → A1 q → A0 q) (hf : ∀ q, free q → A0 q) (hAX : ∀ q, q < H.size → AX q → A0 q)
    (kx : ∀ (E : String) (ce : Cell) (q9 : Addr) (u : SX) (t : State) (H1 : Heap) (locs1 : List Loc), t.heap = H1 → s.vm.Alike t.vm → px u → BX E u t → H.size ≤ H1.size → (∀ q : Nat, q < H.size → ¬ AX q → H1[q]? = H[q]?) → va_S A0 H0 H1 locs1 → H1[q9]? = some ce → ce.vm = .none → s.vm.findClass E = some ce.cls → vx_W p l e R s m args below meth c H1 locs1 (cells + mc) (slots + ms) Q (F0 m pc ls rest) q9)
    (kk : ∀ (u : S) (t : State) (H1 : Heap) (locs1 : List Loc), t.heap = H1 → s.vm.Alike t.vm → post u → B u t → H.size ≤ H1.size → (∀ q : Nat, q < H.size → ¬ A1 q → H1[q]? = H[q]?) → va_S A0 H0 H1 locs1 → W p l e R s m args below meth c H1 locs1 (cells + mc) (slots + ms) Q (F0 m (pc + 3) ls (rest))) : W p l e R s m args below meth c H locs cells slots Q (F0 m pc ls st0) := by
  intro T hT X
  rcases hr T hT X with ⟨v, st₀, t, T', L, h0, X', hL, e1, e2, ⟨⟨u, hv, hp, hb⟩, hF⟩, st⟩ | ⟨q, st₀, t, T', L, E, ce, h0, X', hL, e1, e2, ⟨u, hp, hb, hF⟩, hce, hcv, hcl, st⟩
  · cases hv
    obtain ⟨k1, k2, k3⟩ := vx_keep h0 e1 hS hA hf hL hF
    obtain ⟨t2, a1, b1⟩ := kk u t T'.heap (locs ++ L) e1.symm (by rw [← e2]; exact X'.warmed.alike) hp hb k1 k2 k3 T' rfl X'
    exact ⟨t2, st t2 a1, b1⟩
  · obtain ⟨k1, k2, k3⟩ := vx_keep h0 e1 hS hAX hf hL hF
    obtain ⟨t2, a1, b1⟩ := kx E ce q u t T'.heap (locs ++ L) e1.symm (by rw [← e2]; exact X'.warmed.alike) hp hb k1 k2 k3 (by rw [e1]; exact hce) hcv hcl T' rfl X'
    exact ⟨t2, st.trans a1, b1⟩
/-- caught by the row x of this method's table; the rows ahead don't take it -/
theorem vx_catch {own name : String} {E : String} {ce : Cell} {q : Addr} (hown : s.vm.findClass own = some m.cls) (pre : List ExceptionTableEntry) (x : ExceptionTableEntry) (suf : List ExceptionTableEntry) (hsplit : c.exceptionTable.toList = pre ++ x :: suf)
    (hpass : ∀ z ∈ pre, covers z pc = false ∨ (z.catchType ≠ 0 ∧ ∃ nm : String, (Cond.classLink own z.catchType nm).before args s = true ∧ va_Nc E nm s)) (hx : covers x pc = true) (h0 : x.catchType ≠ 0)
    (hlink : (Cond.classLink own x.catchType name).before args s = true) (hcast : (Cond.castable E name).before args s = true) (hcell : H[q]? = some ce) (hv : ce.vm = .none) (hcl : s.vm.findClass E = some ce.cls)
    (kk : W p l e R s m args below meth c H locs cells slots Q (F0 m x.handlerPc ls [.ref q])) : vx_W p l e R s m args below meth c H locs cells slots Q (F0 m pc ls rest) q := by
  intro T hT X
  have hpl : e.platform.magicAccessors = ({} : Platform).magicAccessors := by rw [X.admits.platform]
  obtain ⟨c3, c4, hc3, hc4, hasg⟩ := Cond.castable_spec hcast
  cases Option.some.inj (hc3.symm.trans hcl)
  obtain ⟨c5, hc5, hcl5⟩ := Cond.classLink_spec hown hlink e.platform hpl
  cases Option.some.inj (hc4.symm.trans hc5)
  obtain ⟨vm', X', st⟩ := X.thenCaughtThrough q (g := F0 m pc ls rest) rfl (Steps.refl _) (by rw [hT]; exact hcell) (by rw [hv]; rfl) (by obtain ⟨k9, h9, -⟩ := Vm.findClass_spec hcl; exact ⟨k9, h9⟩) pre x suf hsplit
    (fun z hz => by
      rcases hpass z hz with h | ⟨hz0, nm, hl1, hn1⟩
      · exact Or.inl h
      · obtain ⟨c6, hc6, hcl6⟩ := Cond.classLink_spec hown hl1 e.platform hpl
        obtain ⟨a8, b8, h1, h2, h3⟩ := hn1
        cases Option.some.inj (h1.symm.trans hcl)
        cases Option.some.inj (h2.symm.trans hc6)
        exact Or.inr ⟨hz0, _, hcl6, h3⟩) hx (Or.inr ⟨h0, c4, hcl5, hasg⟩)
  obtain ⟨t, a1, b1⟩ := kk (T.setVm vm') hT X'
  exact ⟨t, st.trans a1, b1⟩
end Rows
section Ends
variable {p : Program} {l : Launch} {e : Env} {R : Room} {s : State} {m : MethodId} {args : Array Value} {below : List Frame} {meth : Method} {c : Code} {H : Heap} {locs : List Loc} {cells slots : Nat} {Q : State → Prop}
variable {mc ms : Nat} {free : Addr → Prop} {A0 A1 : Nat → Prop} {H0 : Heap} {a : Array Value} {ls : Array Slot} {st0 rest : List Value}
variable {Qc : Array Value → State → Outcome → State → Prop} {XC : String → State → State → Prop}
/-- what a body that may throw owes at its end -/
def vx_MQ (below : List Frame) (Qc : Array Value → State → Outcome → State → Prop) (XC : String → State → State → Prop) (a : Array Value) (s : State) (mc ms : Nat) (free : Addr → Prop) : State → Prop := fun t =>
  ∃ o, t.status = .running ∧ Ended t below o ∧ vx_Q Qc XC mc ms free a s o t
theorem vx_ret {g : JFrame} {mc ms : Nat} (k : W p l e R s m args below meth c H locs cells slots (MQ below Qc args s mc ms free) g) : W p l e R s m args below meth c H locs cells slots (vx_MQ below Qc XC args s mc ms free) g := by
  intro T hT X
  obtain ⟨t, a1, o, b1, b2, b3, b4⟩ := k T hT X
  exact ⟨t, a1, o, b1, b2, Or.inl ⟨b3, b4⟩⟩
/-- not caught here: it goes on to the caller -/
theorem vx_widen {g : JFrame} {q : Addr} {k n : Nat} (h1 : cells ≤ k) (h2 : slots ≤ n) (kk : vx_W p l e R s m args below meth c H locs k n Q g q) : vx_W p l e R s m args below meth c H locs cells slots Q g q := fun T hT X => kk T hT (stand_widen X h1 h2)
theorem vx_out {pc : Nat} {E : String} {ce : Cell} {q : Addr} {mc ms : Nat} (hout : ∀ x ∈ c.exceptionTable.toList, covers x pc = false) (hlocks : meth.locks = false) (hcell : H[q]? = some ce) (hv : ce.vm = .none) (hcl : s.vm.findClass E = some ce.cls)
    (hx : ∀ t : State, t.heap = H → s.vm.Alike t.vm → XC E s t) (hf : ∀ z ∈ locs, free z.base) (hc : cells ≤ mc) (hs : slots ≤ ms) :
    vx_W p l e R s m args below meth c H locs cells slots (vx_MQ below Qc XC args s mc ms free) (F0 m pc ls rest) q := by
  intro T hT X
  obtain ⟨st1, hrun, hend, hW, hsm⟩ := X.leaveThrown q (g := F0 m pc ls rest) rfl rfl rfl hout hlocks
  have hcell9 : (T.setFrames (.throwing q :: below)).heap[q]? = some ce := by
    show T.heap[q]? = some ce
    rw [hT]; exact hcell
  exact ⟨_, st1, .threw q, hrun, hend, Or.inr ⟨q, rfl, E, ce, locs, hx _ hT hW.alike, hcell9, hv, hcl, hW, hsm.mono hc hs, hf⟩⟩
theorem vx_frame {U : State} {k n : Nat} (h : s.sameButNew ({ U with vm := s.vm } : State) locs k n) : s.heap.size ≤ U.heap.size ∧ ∀ q : Nat, q < s.heap.size → (∀ z ∈ locs, z.base ≠ q) → U.heap[q]? = s.heap[q]? := by
  obtain ⟨-, h2, -, -, -, h6⟩ := h
  refine ⟨h2, fun q hq hz => ?_⟩
  obtain ⟨c9, e1, e2, e3, e4⟩ := h6 q _ (Array.getElem?_eq_getElem hq)
  have hs : c9.slots = (s.heap[q]).slots := Array.ext_getElem? fun i => e4 i fun hm => hz _ hm rfl
  have h9 : c9 = s.heap[q] := by
    rw [hs] at e2
    exact e2
  have e5 : U.heap[q]? = some c9 := e1
  rw [e5, h9, Array.getElem?_eq_getElem hq]
/-- the words of a throw but the four that speak of the heap -/
def vx_no (w : Cond) : Bool := decide (w ≠ .isRef (.static Bundle.tN "UNASSIGNED_STACK" Bundle.steD)) && decide (w ≠ .isRef (.static Bundle.tN "SUPPRESSED_SENTINEL" Bundle.listD)) && decide (w ≠ .laysStatic Bundle.tN "UNASSIGNED_STACK" Bundle.steD) && decide (w ≠ .laysStatic Bundle.tN "SUPPRESSED_SENTINEL" Bundle.listD)
def vx_at0 (own : String) (ic : Nat) (X : String) (names : List String) : List Cond := (Bundle.ownAtoms0 own ic X names).filter vx_no
def vx_atS (own : String) (ic : Nat) (X : String) (names : List String) : List Cond := (Bundle.ownAtoms own ic X names).filter vx_no
/-- a word that the tables alone decide, or a good one -/
def vx_ot (w : Cond) : Bool := w.onTables || goodWord w
theorem vx_ot_at {args a' : Array Value} {s U : State} {w : Cond} (hW : s.WarmedH U.vm) (hvm : s.vm = U.vm) (hg : vx_ot w = true) (h : w.before args s = true) : w.before a' U = true := by
  simp only [vx_ot, Bool.or_eq_true] at hg
  rcases hg with hg | hg
  · exact va_tabs hg hvm h
  · exact word_at hW (good_of_word hg) h
/-- a list's words: the good ones out of the method's own list, the others by premises of their own -/
theorem vx_hat {args : Array Value} {s : State} {L B : List Cond} (h1 : ∀ w ∈ L.filter goodWord, w.before args s = true) (h2 : ∀ w ∈ L.filter (fun w => !goodWord w), w ∈ B) (h3 : ∀ w ∈ B, w.before args s = true) : ∀ w ∈ L, w.before args s = true := by
  intro w hw
  by_cases g : goodWord w = true
  · exact h1 w (List.mem_filter.mpr ⟨hw, g⟩)
  · refine h3 w (h2 w (List.mem_filter.mpr ⟨hw, ?_⟩))
    show (!goodWord w) = true
    cases hgw : goodWord w
    · rfl
    · exact absurd hgw g
theorem vx_c {args : Array Value} {s : State} {w : Cond} {B : List Cond} (h : w.before args s = true) (t : ∀ w ∈ B, w.before args s = true) : ∀ w' ∈ w :: B, w'.before args s = true := fun w' h' => (List.mem_cons.mp h').elim (fun e => by rw [e]; exact h) (t w')
theorem vx_n {args : Array Value} {s : State} : ∀ w ∈ ([] : List Cond), w.before args s = true := fun _ h => nomatch h
theorem vx_own {args : Array Value} {s : State} {L : List Cond} (h1 : ∀ w ∈ L.filter vx_no, w.before args s = true)
    (hU : (Cond.isRef (.static Bundle.tN "UNASSIGNED_STACK" Bundle.steD)).before args s = true) (hN : (Cond.isRef (.static Bundle.tN "SUPPRESSED_SENTINEL" Bundle.listD)).before args s = true)
    (lU : (Cond.laysStatic Bundle.tN "UNASSIGNED_STACK" Bundle.steD).before args s = true) (lN : (Cond.laysStatic Bundle.tN "SUPPRESSED_SENTINEL" Bundle.listD).before args s = true) : ∀ w ∈ L, w.before args s = true := by
  intro w hw
  by_cases e1 : w = .isRef (.static Bundle.tN "UNASSIGNED_STACK" Bundle.steD)
  · rw [e1]; exact hU
  · by_cases e2 : w = .isRef (.static Bundle.tN "SUPPRESSED_SENTINEL" Bundle.listD)
    · rw [e2]; exact hN
    · by_cases e3 : w = .laysStatic Bundle.tN "UNASSIGNED_STACK" Bundle.steD
      · rw [e3]; exact lU
      · by_cases e4 : w = .laysStatic Bundle.tN "SUPPRESSED_SENTINEL" Bundle.listD
        · rw [e4]; exact lN
        · exact h1 w (List.mem_filter.mpr ⟨hw, by unfold vx_no; rw [decide_eq_true e1, decide_eq_true e2, decide_eq_true e3, decide_eq_true e4]; rfl⟩)
/-- where a static field lies, its class's statics cell in H -/
def vx_L (C n d : String) (A : Nat → Prop) (U : State) (H : Heap) : Prop := ∃ (c : ClassId) (k : Class) (i : Nat) (f : Field) (a : Nat) (cell : Cell), U.vm.findClass C = some c ∧ U.fieldFound? C n d = some (c, k, i, f) ∧ f.isStatic = true ∧ k.statics = some a ∧ H[a]? = some cell ∧ cell.vm.isStatics = true ∧ cell.cls = c ∧ f.slot < cell.slots.size ∧ k.staticTypes[f.slot]? = some f.type ∧ ¬ A a
theorem vx_L.moved {C n d : String} {A : Nat → Prop} {u U : State} {H : Heap} (hvm : u.vm.Alike U.vm) (h : vx_L C n d A u H) : vx_L C n d A U H := by
  obtain ⟨c, k, i, f, a, cell, h1, h2, h3, h4, h5, h6, h7, h8, h9, h10⟩ := h
  obtain ⟨k', hi', he⟩ := State.fieldFound?_setVm hvm h2
  exact ⟨c, k', i, f, a, cell, by rw [hvm.findClass]; exact h1, hi', h3, by rw [he]; exact h4, h5, h6, h7, h8, by rw [he]; exact h9, h10⟩
theorem vx_L.kept {C n d : String} {A : Nat → Prop} {U : State} {H H1 : Heap} (h : vx_L C n d A U H) (hq : ∀ a : Nat, a < H.size → ¬ A a → H1[a]? = H[a]?) : vx_L C n d A U H1 := by
  obtain ⟨c, k, i, f, a, cell, h1, h2, h3, h4, h5, h6, h7, h8, h9, h10⟩ := h
  exact ⟨c, k, i, f, a, cell, h1, h2, h3, h4, by rw [hq a (Array.getElem?_eq_some_iff.mp h5).1 h10]; exact h5, h6, h7, h8, h9, h10⟩
theorem vx_L.narrow {C n d : String} {A B : Nat → Prop} {U : State} {H : Heap} (h : vx_L C n d A U H) (hAB : ∀ q, B q → A q) : vx_L C n d B U H := by
  obtain ⟨c, k, i, f, a, cell, h1, h2, h3, h4, h5, h6, h7, h8, h9, h10⟩ := h
  exact ⟨c, k, i, f, a, cell, h1, h2, h3, h4, h5, h6, h7, h8, h9, fun z => h10 (hAB _ z)⟩
theorem vx_L.word {C n d : String} {A : Nat → Prop} {s : State} {args : Array Value} (h : vx_L C n d A s s.heap) : (Cond.laysStatic C n d).before args s = true := by
  obtain ⟨c, k, i, f, a, cell, h1, h2, h3, h4, h5, h6, h7, h8, h9, -⟩ := h
  show (Cond.laysStatic C n d).holds args s none s [] = true
  exact Cond.laysStatic_of h1 h2 h3 h4 h5 h6 h7 h8 h9
/-- .. and what it holds: null or some reference -/
def vx_Zq (C n d : String) (A : Nat → Prop) (U : State) (H : Heap) : Prop := va_Zq C n d A U H ∧ vx_L C n d A U H
theorem vx_Zq.moved {C n d : String} {A : Nat → Prop} {u U : State} {H : Heap} (hvm : u.vm.Alike U.vm) (h : vx_Zq C n d A u H) : vx_Zq C n d A U H := ⟨va_Zq.moved hvm h.1, vx_L.moved hvm h.2⟩
theorem vx_Zq.kept {C n d : String} {A : Nat → Prop} {U : State} {H H1 : Heap} (h : vx_Zq C n d A U H) (hq : ∀ a : Nat, a < H.size → ¬ A a → H1[a]? = H[a]?) : vx_Zq C n d A U H1 := ⟨va_Zq.kept h.1 hq, vx_L.kept h.2 hq⟩
theorem vx_Zq.narrow {C n d : String} {A B : Nat → Prop} {U : State} {H : Heap} (h : vx_Zq C n d A U H) (hAB : ∀ q, B q → A q) : vx_Zq C n d B U H := ⟨va_Zq.narrow h.1 hAB, vx_L.narrow h.2 hAB⟩
theorem vx_Zqof {args : Array Value} {s : State} {C n d : String} {A : Nat → Prop} (hl : (Cond.laysStatic C n d).before args s = true) (hini : (Cond.initialized C).before args s = true) (h : (Cond.isRef (.static C n d)).before args s = true) (hA : ∀ a : Nat, a < s.heap.size → ¬ A a) : vx_Zq C n d A s s.heap := by
  refine ⟨va_Zqof hl hini h hA, ?_⟩
  obtain ⟨c, k, i, f, a, cell, h1, h2, h3, h4, h5, h6, h7, h8, h9⟩ := Cond.laysStatic_spec hl
  exact ⟨c, k, i, f, a, cell, h1, h2, h3, h4, h5, h6, h7, h8, h9, hA a (Array.getElem?_eq_some_iff.mp h5).1⟩
theorem vx_isRef {C n d : String} {v : Value} {A : Nat → Prop} {s : State} {args : Array Value} (h : va_Z C n d v A s s.heap) (hv : v.isRef = true) : (Cond.isRef (.static C n d)).before args s = true := by
  obtain ⟨cf, kf, fi, f, a, cell, h1, h2, h3, h4, h5, h6, h7, -⟩ := h
  have he : (Term.static C n d).eval args s none [] s = some v := by
    simp [Term.eval, State.fieldNamed?, h1, h2, h4, h5, h6, h7]
  simp only [Cond.before, Cond.holds, Cond.value, he]
  cases v <;> simp_all [Value.isRef]
theorem vx_isRefq {C n d : String} {A : Nat → Prop} {s : State} {args : Array Value} (h : va_Zq C n d A s s.heap) : (Cond.isRef (.static C n d)).before args s = true := by
  rcases h with h | ⟨t, h⟩
  · exact vx_isRef h rfl
  · exact vx_isRef h rfl
/-- the same frame, seen from here: as if the method were called anew in this heap -/
theorem vx_rebase {T : State} (X : Stand p l e R s m args below meth c T locs cells slots) {R' : Room} (hf : R'.frames ≤ R.frames) (hl : R'.locals ≤ R.locals) (hc : cells + R'.cells ≤ R.cells) (hs : slots + R'.slots ≤ R.slots) :
    Stand p l e R' ((T.setVm s.vm).setFrames (.invoking m args :: below)) m args below meth c T [] 0 0 := by
  have htop : (T.setVm s.vm).topJava?.isSome := X.here.top
  have hF : ((T.setVm s.vm).setFrames (.invoking m args :: below)).frames = .invoking m args :: below := State.frames_setFrames _ (State.cur_lt_of_top htop)
  obtain ⟨g₀, hg0⟩ := Option.isSome_iff_exists.mp htop
  obtain ⟨r, hr⟩ := State.topJava?_eq_some.mp hg0
  have hl9 : e.platform.stackLimits (T.setVm s.vm).me = e.platform.stackLimits s.me := X.limits
  have hb9 : (T.setVm s.vm).me.stackBytes = s.me.stackBytes := X.bytes
  refine ⟨X.admits, X.cas, X.clock, hF, ?_, X.hears, X.method, X.code, X.here, X.tail, X.warmed, ?_, ?_, ?_⟩
  · have h := X.room
    have hU : ((T.setVm s.vm).setFrames (.invoking m args :: below)).localsInUse = s.localsInUse := by
      rw [State.localsInUse_invoking hF (meth := meth) (c := c) X.method X.code, State.localsInUse_invoking X.frames X.method X.code]
    simp only [State.hasRoom, Bool.and_eq_true, decide_eq_true_eq] at h ⊢
    obtain ⟨⟨⟨⟨h1, h2, h3, h4, h5, h6⟩, h7⟩, h8⟩, h9⟩ := h
    rw [X.frames, List.length_cons] at h2 h3
    have q1 := X.heapSize
    have q2 := X.used
    simp only [hF, hU, List.length_cons, State.stackLimits_setFrames, State.stackBytes_setFrames, hl9, hb9]
    refine ⟨⟨⟨⟨by omega, by omega, by omega, by omega, by omega, h6⟩, ?_⟩, ?_⟩, X.book⟩
    · show T.heap.size + R'.cells ≤ e.platform.maxCells
      omega
    · show T.slotsUsed + R'.slots ≤ e.platform.maxSlots
      omega
  · rw [State.stackLimits_setFrames]; rfl
  · rw [State.stackBytes_setFrames]; rfl
  · refine ⟨?_, Nat.le_refl _, Nat.le_refl _, ?_, ?_, fun a c9 h9 => ⟨c9, h9, rfl, rfl, fun _ _ => rfl⟩⟩
    · obtain ⟨t, ht, -⟩ := State.frames_cons hr
      show T.setVm s.vm = { ((T.setVm s.vm).setFrames (.invoking m args :: below)).setFrames (T.setVm s.vm).frames with heap := T.heap, slotsUsed := T.slotsUsed }
      rw [State.setFrames_setFrames, State.setFrames_self ht]
      rfl
    · show T.slotsUsed = T.slotsUsed + ((T.heap.toList.drop T.heap.size).map (·.slots.size)).sum
      rw [List.drop_eq_nil_of_le (Nat.le_of_eq Array.length_toList)]
      rfl
    · show ((T.heap.toList.drop T.heap.size).map (·.slots.size)).sum ≤ 0
      rw [List.drop_eq_nil_of_le (Nat.le_of_eq Array.length_toList)]
      exact Nat.le_refl _
/-- 'throw new E()': new; dup; invokespecial; athrow -/
theorem vx_throw0 {cc : ByteArray} {pc : Nat} (hexec : p.tables.exec = Jvm.exec) (hb : c.code = cc) (hl : l.stackTraces = false) {own cls : String} {names : List String} {ik ic mc ms : Nat} {A : Nat → Prop}
    (hown : s.vm.findClass own = some m.cls) (hcls : Bundle.fit cls = true) (hnames : ∀ n ∈ names, Bundle.fit n = true)
    (hk : (Cond.classLink own ik cls).before args s = true) (hini : (Cond.initialized cls).before args s = true) (hat : ∀ w ∈ vx_at0 own ic cls names, w.before args s = true)
    (hgood : ∀ w ∈ Cond.classLink own ik cls :: Cond.initialized cls :: vx_at0 own ic cls names, vx_ot w = true)
    (hU : vx_Zq Bundle.tN "UNASSIGNED_STACK" Bundle.steD A s s.heap) (hN : vx_Zq Bundle.tN "SUPPRESSED_SENTINEL" Bundle.listD A s s.heap) (hS : va_S A s.heap H locs) (hsize : ls.size = c.maxLocals)
    (d0 : decode cc pc = .ok (.new ik, 3)) (d3 : decode cc (pc + 3) = .ok (.dup, 1)) (d4 : decode cc (pc + 4) = .ok (.invokespecial ic, 3)) (d7 : decode cc (pc + 7) = .ok (.athrow, 1))
    (hout : ∀ x ∈ c.exceptionTable.toList, covers x (pc + 7) = false)
    (hRframes : names.length + 3 < R.frames) (hRlocals : (rest.map fun v => v.category).sum + (13 * (names.length + 1) + 42) ≤ R.locals) (hRcells : cells + 1 ≤ R.cells) (hRslots : slots + 6 ≤ R.slots) (hlocks : meth.locks = false)
    (hx : ∀ t : State, s.vm.Alike t.vm → H.size ≤ t.heap.size → (∀ q : Nat, q < H.size → t.heap[q]? = H[q]?) → XC cls s t)
    (hf : ∀ z ∈ locs, free z.base) (hc : cells + 1 ≤ mc) (hs : slots + 6 ≤ ms) :
    W p l e R s m args below meth c H locs cells slots (vx_MQ below Qc XC args s mc ms free) (F0 m pc ls rest) := by
  intro T hT X
  have htr : e.platform.stackTraces = false := (show e.platform.stackTraces = l.stackTraces by rw [X.admits.platform]).trans hl
  have Y := vx_rebase X (R' := { frames := R.frames, locals := R.locals, cells := 1, slots := 6 }) (Nat.le_refl _) (Nat.le_refl _) hRcells hRslots
  obtain ⟨s', hA⟩ : ∃ z, z = (T.setVm s.vm).setFrames (.invoking m args :: below) := ⟨_, rfl⟩
  rw [← hA] at Y
  have hvm : s'.vm = s.vm := by rw [hA]; rfl
  have hhp : s'.heap = H := by rw [hA]; exact hT
  have hW0 : s.WarmedH s'.vm := by rw [hvm]; exact State.WarmedH.refl s
  have hat' : ∀ w ∈ vx_at0 own ic cls names, w.before args s' = true := fun w hw => vx_ot_at hW0 hvm.symm (hgood w (List.mem_cons_of_mem _ (List.mem_cons_of_mem _ hw))) (hat w hw)
  have hk' : (Cond.classLink own ik cls).before args s' = true := vx_ot_at hW0 hvm.symm (hgood _ List.mem_cons_self) hk
  have hini' : (Cond.initialized cls).before args s' = true := vx_ot_at hW0 hvm.symm (hgood _ (List.mem_cons_of_mem _ List.mem_cons_self)) hini
  have hU' : vx_Zq Bundle.tN "UNASSIGNED_STACK" Bundle.steD A s' s'.heap := by rw [hhp]; exact vx_Zq.moved hW0.alike (hU.kept hS.2.1)
  have hN' : vx_Zq Bundle.tN "SUPPRESSED_SENTINEL" Bundle.listD A s' s'.heap := by rw [hhp]; exact vx_Zq.moved hW0.alike (hN.kept hS.2.1)
  have h : ∀ w ∈ Bundle.ownAtoms0 own ic cls names, w.before args s' = true := vx_own hat' (vx_isRefq hU'.1) (vx_isRefq hN'.1) hU'.2.word hN'.2.word
  have hown' : s'.vm.findClass own = some m.cls := by rw [hvm]; exact hown
  have hins : (Cond.instantiable cls 6).before args s' = true := h _ (by simp [Bundle.ownAtoms0])
  obtain ⟨vm₁, cX, kX, hfX, hkX, -, -, X₁, st1⟩ := Y.newCold hexec (own := own) (C := cls) (index := ik) (n := 6) hown' hk' hins hini'
    (g := F0 m pc ls rest) rfl (by rw [hb]; exact d0) (Nat.le_refl _) (Nat.le_refl _)
  generalize hT1 : (T.setVm vm₁).pushCell { cls := cX, slots := kX.instanceTypes.map defaultValue, vm := .none } = T1 at X₁ st1
  have hcat : (Value.ref T.heap.size).category = 1 := rfl
  have hcellA : T1.heap[T.heap.size]? = some (freshCell cX kX) := by rw [← hT1]; exact State.heap_pushCell_size _ _
  have d3' : decode c.code (pc + 3) = .ok (.dup, 1) := by rw [hb]; exact d3
  obtain ⟨U, hsteps, hrun, hend, hW, hsame, ce, hce, hO⟩ := X₁.ctorThrow0 hexec htr (own := own) (cls := cls) (names := names) (ic := ic) hown' hcls hnames h (fun x hx => nomatch hx) hfX hkX hcellA (by rw [hhp, hT]; exact Nat.le_refl _)
    (g := { method := m, pc := pc + 4, locals := ls, stack := .ref T.heap.size :: .ref T.heap.size :: rest, locked := none }) rfl hsize rfl rfl (rest := rest) rfl
    (by rw [hb]; exact d4) (by rw [hb]; exact d7) hout hRframes (by simp only [List.map_cons, List.sum_cons, hcat]; omega) hlocks
  obtain ⟨f1, f2⟩ := vx_frame hsame
  rw [hhp] at f1 f2
  have hWs : s.WarmedH U.vm := State.WarmedH.trans hW0 hW
  have hcl : s.vm.findClass cls = some ce.cls := by
    have h9 := hO.cls
    rw [hvm] at h9
    exact h9
  have hall : s.sameButNew ({ U with vm := s.vm } : State) locs mc ms := by
    subst hA
    obtain ⟨e1, e2⟩ := hsame
    rw [State.setFrames_setFrames] at e1
    have h2 : (T.setVm s.vm).sameButNew ({ U with vm := s.vm } : State) [] (0 + 1) (0 + 6) := ⟨e1, e2⟩
    have h3 := X.same.trans h2
    rw [List.append_nil] at h3
    exact h3.mono hc hs
  refine ⟨U, ?_, .threw T.heap.size, hrun, hend, Or.inr ⟨T.heap.size, rfl, cls, ce, locs, hx U hWs.alike f1 (fun q hq => f2 q hq (fun z hz => nomatch hz)), hce, hO.vm, hcl, hWs, hall, hf⟩⟩
  refine st1 _ ?_
  show Steps p.tables e below (T1.setTop { method := m, pc := pc + 3, locals := ls, stack := .ref T.heap.size :: rest, locked := none }) _
  jvm_step X₁.here [X₁.here.top, hexec, d3', Value.category]
  exact hsteps
/-- 'throw new E("text")': new; dup; ldc; invokespecial; athrow -/
theorem vx_throwS {cc : ByteArray} {pc : Nat} (hexec : p.tables.exec = Jvm.exec) (hb : c.code = cc) (hl : l.stackTraces = false) {own cls text : String} {names : List String} {ik is ic mc ms sa : Nat} {A : Nat → Prop}
    (hown : s.vm.findClass own = some m.cls) (hcls : Bundle.fit cls = true) (hnames : ∀ n ∈ names, Bundle.fit n = true)
    (hk : (Cond.classLink own ik cls).before args s = true) (hini : (Cond.initialized cls).before args s = true) (hstr : vk_R own is text sa s) (hat : ∀ w ∈ vx_atS own ic cls names, w.before args s = true)
    (hgood : ∀ w ∈ Cond.classLink own ik cls :: Cond.initialized cls :: vx_atS own ic cls names, vx_ot w = true)
    (hU : vx_Zq Bundle.tN "UNASSIGNED_STACK" Bundle.steD A s s.heap) (hN : vx_Zq Bundle.tN "SUPPRESSED_SENTINEL" Bundle.listD A s s.heap) (hS : va_S A s.heap H locs) (hsize : ls.size = c.maxLocals)
    (d0 : decode cc pc = .ok (.new ik, 3)) (d3 : decode cc (pc + 3) = .ok (.dup, 1)) (d4 : decode cc (pc + 4) = .ok (.ldc is, 2)) (d6 : decode cc (pc + 6) = .ok (.invokespecial ic, 3)) (d9 : decode cc (pc + 9) = .ok (.athrow, 1))
    (hout : ∀ x ∈ c.exceptionTable.toList, covers x (pc + 9) = false)
    (hRframes : names.length + 3 < R.frames) (hRlocals : (rest.map fun v => v.category).sum + (13 * (names.length + 1) + 43) ≤ R.locals) (hRcells : cells + 1 ≤ R.cells) (hRslots : slots + 6 ≤ R.slots) (hlocks : meth.locks = false)
    (hx : ∀ t : State, s.vm.Alike t.vm → H.size ≤ t.heap.size → (∀ q : Nat, q < H.size → t.heap[q]? = H[q]?) → XC cls s t)
    (hf : ∀ z ∈ locs, free z.base) (hc : cells + 1 ≤ mc) (hs : slots + 6 ≤ ms) :
    W p l e R s m args below meth c H locs cells slots (vx_MQ below Qc XC args s mc ms free) (F0 m pc ls rest) := by
  intro T hT X
  have htr : e.platform.stackTraces = false := (show e.platform.stackTraces = l.stackTraces by rw [X.admits.platform]).trans hl
  have Y := vx_rebase X (R' := { frames := R.frames, locals := R.locals, cells := 1, slots := 6 }) (Nat.le_refl _) (Nat.le_refl _) hRcells hRslots
  obtain ⟨s', hA⟩ : ∃ z, z = (T.setVm s.vm).setFrames (.invoking m args :: below) := ⟨_, rfl⟩
  rw [← hA] at Y
  have hvm : s'.vm = s.vm := by rw [hA]; rfl
  have hhp : s'.heap = H := by rw [hA]; exact hT
  have hW0 : s.WarmedH s'.vm := by rw [hvm]; exact State.WarmedH.refl s
  have hat' : ∀ w ∈ vx_atS own ic cls names, w.before args s' = true := fun w hw => vx_ot_at hW0 hvm.symm (hgood w (List.mem_cons_of_mem _ (List.mem_cons_of_mem _ hw))) (hat w hw)
  have hk' : (Cond.classLink own ik cls).before args s' = true := vx_ot_at hW0 hvm.symm (hgood _ List.mem_cons_self) hk
  have hini' : (Cond.initialized cls).before args s' = true := vx_ot_at hW0 hvm.symm (hgood _ (List.mem_cons_of_mem _ List.mem_cons_self)) hini
  have hU' : vx_Zq Bundle.tN "UNASSIGNED_STACK" Bundle.steD A s' s'.heap := by rw [hhp]; exact vx_Zq.moved hW0.alike (hU.kept hS.2.1)
  have hN' : vx_Zq Bundle.tN "SUPPRESSED_SENTINEL" Bundle.listD A s' s'.heap := by rw [hhp]; exact vx_Zq.moved hW0.alike (hN.kept hS.2.1)
  have h : ∀ w ∈ Bundle.ownAtoms own ic cls names, w.before args s' = true := vx_own hat' (vx_isRefq hU'.1) (vx_isRefq hN'.1) hU'.2.word hN'.2.word
  have hown' : s'.vm.findClass own = some m.cls := by rw [hvm]; exact hown
  have hins : (Cond.instantiable cls 6).before args s' = true := h _ (by simp [Bundle.ownAtoms])
  obtain ⟨vm₁, cX, kX, hfX, hkX, -, -, X₁, st1⟩ := Y.newCold hexec (own := own) (C := cls) (index := ik) (n := 6) hown' hk' hins hini'
    (g := F0 m pc ls rest) rfl (by rw [hb]; exact d0) (Nat.le_refl _) (Nat.le_refl _)
  generalize hT1 : (T.setVm vm₁).pushCell { cls := cX, slots := kX.instanceTypes.map defaultValue, vm := .none } = T1 at X₁ st1
  have hcat : (Value.ref T.heap.size).category = 1 := rfl
  have hcellA : T1.heap[T.heap.size]? = some (freshCell cX kX) := by rw [← hT1]; exact State.heap_pushCell_size _ _
  have d3' : decode c.code (pc + 3) = .ok (.dup, 1) := by rw [hb]; exact d3
  have d4' : decode c.code (pc + 4) = .ok (.ldc is, 2) := by rw [hb]; exact d4
  have hstr' : vk_R own is text sa s' := vk_R.warm hW0 hstr
  obtain ⟨U, hsteps, hrun, hend, hW, hsame, ce, hce, hO⟩ := X₁.ctorThrowS hexec htr (own := own) (cls := cls) (names := names) (ic := ic) hown' hcls hnames h (fun x hx => nomatch hx) hfX hkX hcellA (by rw [hhp, hT]; exact Nat.le_refl _) (msg := .ref sa) rfl
    (g := { method := m, pc := pc + 6, locals := ls, stack := .ref sa :: .ref T.heap.size :: .ref T.heap.size :: rest, locked := none }) rfl hsize rfl rfl (rest := rest) rfl
    (by rw [hb]; exact d6) (by rw [hb]; exact d9) hout hRframes (by simp only [List.map_cons, List.sum_cons, hcat]; omega) hlocks
  obtain ⟨f1, f2⟩ := vx_frame hsame
  rw [hhp] at f1 f2
  have hWs : s.WarmedH U.vm := State.WarmedH.trans hW0 hW
  have hcl : s.vm.findClass cls = some ce.cls := by
    have h9 := hO.cls
    rw [hvm] at h9
    exact h9
  have hall : s.sameButNew ({ U with vm := s.vm } : State) locs mc ms := by
    subst hA
    obtain ⟨e1, e2⟩ := hsame
    rw [State.setFrames_setFrames] at e1
    have h2 : (T.setVm s.vm).sameButNew ({ U with vm := s.vm } : State) [] (0 + 1) (0 + 6) := ⟨e1, e2⟩
    have h3 := X.same.trans h2
    rw [List.append_nil] at h3
    exact h3.mono hc hs
  refine ⟨U, ?_, .threw T.heap.size, hrun, hend, Or.inr ⟨T.heap.size, rfl, cls, ce, locs, hx U hWs.alike f1 (fun q hq => f2 q hq (fun z hz => nomatch hz)), hce, hO.vm, hcl, hWs, hall, hf⟩⟩
  refine st1 _ ?_
  show Steps p.tables e below (T1.setTop { method := m, pc := pc + 3, locals := ls, stack := .ref T.heap.size :: rest, locked := none }) _
  jvm_step X₁.here [X₁.here.top, hexec, d3', Value.category]
  exact X₁.ldcString hexec (own := own) (text := text) (index := is) (a := sa) hown' hstr'.1 hstr'.2
    (g := { method := m, pc := pc + 4, locals := ls, stack := .ref T.heap.size :: .ref T.heap.size :: rest, locked := none }) rfl d4' _ hsteps
/-- 'throw new E("text")', the text by a wide index -/
theorem vx_throwSW {cc : ByteArray} {pc : Nat} (hexec : p.tables.exec = Jvm.exec) (hb : c.code = cc) (hl : l.stackTraces = false) {own cls text : String} {names : List String} {ik is ic mc ms sa : Nat} {A : Nat → Prop}
    (hown : s.vm.findClass own = some m.cls) (hcls : Bundle.fit cls = true) (hnames : ∀ n ∈ names, Bundle.fit n = true)
    (hk : (Cond.classLink own ik cls).before args s = true) (hini : (Cond.initialized cls).before args s = true) (hstr : vk_R own is text sa s) (hat : ∀ w ∈ vx_atS own ic cls names, w.before args s = true)
    (hgood : ∀ w ∈ Cond.classLink own ik cls :: Cond.initialized cls :: vx_atS own ic cls names, vx_ot w = true)
    (hU : vx_Zq Bundle.tN "UNASSIGNED_STACK" Bundle.steD A s s.heap) (hN : vx_Zq Bundle.tN "SUPPRESSED_SENTINEL" Bundle.listD A s s.heap) (hS : va_S A s.heap H locs) (hsize : ls.size = c.maxLocals)
    (d0 : decode cc pc = .ok (.new ik, 3)) (d3 : decode cc (pc + 3) = .ok (.dup, 1)) (d4 : decode cc (pc + 4) = .ok (.ldc_w is, 3)) (d7 : decode cc (pc + 7) = .ok (.invokespecial ic, 3)) (d10 : decode cc (pc + 10) = .ok (.athrow, 1))
    (hout : ∀ x ∈ c.exceptionTable.toList, covers x (pc + 10) = false)
    (hRframes : names.length + 3 < R.frames) (hRlocals : (rest.map fun v => v.category).sum + (13 * (names.length + 1) + 43) ≤ R.locals) (hRcells : cells + 1 ≤ R.cells) (hRslots : slots + 6 ≤ R.slots) (hlocks : meth.locks = false)
    (hx : ∀ t : State, s.vm.Alike t.vm → H.size ≤ t.heap.size → (∀ q : Nat, q < H.size → t.heap[q]? = H[q]?) → XC cls s t)
    (hf : ∀ z ∈ locs, free z.base) (hc : cells + 1 ≤ mc) (hs : slots + 6 ≤ ms) :
    W p l e R s m args below meth c H locs cells slots (vx_MQ below Qc XC args s mc ms free) (F0 m pc ls rest) := by
  intro T hT X
  have htr : e.platform.stackTraces = false := (show e.platform.stackTraces = l.stackTraces by rw [X.admits.platform]).trans hl
  have Y := vx_rebase X (R' := { frames := R.frames, locals := R.locals, cells := 1, slots := 6 }) (Nat.le_refl _) (Nat.le_refl _) hRcells hRslots
  obtain ⟨s', hA⟩ : ∃ z, z = (T.setVm s.vm).setFrames (.invoking m args :: below) := ⟨_, rfl⟩
  rw [← hA] at Y
  have hvm : s'.vm = s.vm := by rw [hA]; rfl
  have hhp : s'.heap = H := by rw [hA]; exact hT
  have hW0 : s.WarmedH s'.vm := by rw [hvm]; exact State.WarmedH.refl s
  have hat' : ∀ w ∈ vx_atS own ic cls names, w.before args s' = true := fun w hw => vx_ot_at hW0 hvm.symm (hgood w (List.mem_cons_of_mem _ (List.mem_cons_of_mem _ hw))) (hat w hw)
  have hk' : (Cond.classLink own ik cls).before args s' = true := vx_ot_at hW0 hvm.symm (hgood _ List.mem_cons_self) hk
  have hini' : (Cond.initialized cls).before args s' = true := vx_ot_at hW0 hvm.symm (hgood _ (List.mem_cons_of_mem _ List.mem_cons_self)) hini
  have hU' : vx_Zq Bundle.tN "UNASSIGNED_STACK" Bundle.steD A s' s'.heap := by rw [hhp]; exact vx_Zq.moved hW0.alike (hU.kept hS.2.1)
  have hN' : vx_Zq Bundle.tN "SUPPRESSED_SENTINEL" Bundle.listD A s' s'.heap := by rw [hhp]; exact vx_Zq.moved hW0.alike (hN.kept hS.2.1)
  have h : ∀ w ∈ Bundle.ownAtoms own ic cls names, w.before args s' = true := vx_own hat' (vx_isRefq hU'.1) (vx_isRefq hN'.1) hU'.2.word hN'.2.word
  have hown' : s'.vm.findClass own = some m.cls := by rw [hvm]; exact hown
  have hins : (Cond.instantiable cls 6).before args s' = true := h _ (by simp [Bundle.ownAtoms])
  obtain ⟨vm₁, cX, kX, hfX, hkX, -, -, X₁, st1⟩ := Y.newCold hexec (own := own) (C := cls) (index := ik) (n := 6) hown' hk' hins hini'
    (g := F0 m pc ls rest) rfl (by rw [hb]; exact d0) (Nat.le_refl _) (Nat.le_refl _)
  generalize hT1 : (T.setVm vm₁).pushCell { cls := cX, slots := kX.instanceTypes.map defaultValue, vm := .none } = T1 at X₁ st1
  have hcat : (Value.ref T.heap.size).category = 1 := rfl
  have hcellA : T1.heap[T.heap.size]? = some (freshCell cX kX) := by rw [← hT1]; exact State.heap_pushCell_size _ _
  have d3' : decode c.code (pc + 3) = .ok (.dup, 1) := by rw [hb]; exact d3
  have d4' : decode c.code (pc + 4) = .ok (.ldc_w is, 3) := by rw [hb]; exact d4
  have hstr' : vk_R own is text sa s' := vk_R.warm hW0 hstr
  obtain ⟨U, hsteps, hrun, hend, hW, hsame, ce, hce, hO⟩ := X₁.ctorThrowS hexec htr (own := own) (cls := cls) (names := names) (ic := ic) hown' hcls hnames h (fun x hx => nomatch hx) hfX hkX hcellA (by rw [hhp, hT]; exact Nat.le_refl _) (msg := .ref sa) rfl
    (g := { method := m, pc := pc + 7, locals := ls, stack := .ref sa :: .ref T.heap.size :: .ref T.heap.size :: rest, locked := none }) rfl hsize rfl rfl (rest := rest) rfl
    (by rw [hb]; exact d7) (by rw [hb]; exact d10) hout hRframes (by simp only [List.map_cons, List.sum_cons, hcat]; omega) hlocks
  obtain ⟨f1, f2⟩ := vx_frame hsame
  rw [hhp] at f1 f2
  have hWs : s.WarmedH U.vm := State.WarmedH.trans hW0 hW
  have hcl : s.vm.findClass cls = some ce.cls := by
    have h9 := hO.cls
    rw [hvm] at h9
    exact h9
  have hall : s.sameButNew ({ U with vm := s.vm } : State) locs mc ms := by
    subst hA
    obtain ⟨e1, e2⟩ := hsame
    rw [State.setFrames_setFrames] at e1
    have h2 : (T.setVm s.vm).sameButNew ({ U with vm := s.vm } : State) [] (0 + 1) (0 + 6) := ⟨e1, e2⟩
    have h3 := X.same.trans h2
    rw [List.append_nil] at h3
    exact h3.mono hc hs
  refine ⟨U, ?_, .threw T.heap.size, hrun, hend, Or.inr ⟨T.heap.size, rfl, cls, ce, locs, hx U hWs.alike f1 (fun q hq => f2 q hq (fun z hz => nomatch hz)), hce, hO.vm, hcl, hWs, hall, hf⟩⟩
  refine st1 _ ?_
  show Steps p.tables e below (T1.setTop { method := m, pc := pc + 3, locals := ls, stack := .ref T.heap.size :: rest, locked := none }) _
  jvm_step X₁.here [X₁.here.top, hexec, d3', Value.category]
  exact X₁.ldcStringW hexec (own := own) (text := text) (index := is) (a := sa) hown' hstr'.1 hstr'.2
    (g := { method := m, pc := pc + 4, locals := ls, stack := .ref T.heap.size :: .ref T.heap.size :: rest, locked := none }) rfl d4' _ hsteps
end Ends
section Bodies
variable {l : Launch}
theorem vx_ofW {y : MethodName} {ws ws' : List Cond} {rm : Room} {Pc : Array Value → State → Prop} {Qc : Array Value → State → Outcome → State → Prop} {XC : String → State → State → Prop} {mc ms : Nat} {free : Addr → Prop} {cc : ByteArray} {maxL : Nat} {ret : Option FieldType}
    (hy : plainName y.cls = true) (hw : ws = Cond.code y cc maxL ret :: ws')
    (body : ∀ p e s m args below meth c s₁, BodyLoose p l y (headSpec ws rm) cc maxL ret e s m args below meth c s₁ → c.maxLocals = maxL → (∀ x ∈ c.exceptionTable.toList, False) → Pc args s →
      W p l e (headSpec ws rm).room s m args below meth c s.heap [] 0 0 (vx_MQ below Qc XC args s mc ms free) (entryFrame m args maxL)) : vx_Met l y ws rm Pc Qc XC mc ms free := by
  refine MetFree.of_bodyS (code := cc) (maxLocals := maxL) (ret := ret) hy ?_ ?_
  · intro args s m h hn
    obtain ⟨meth, c, h1, h2, h3, h4, h5, h6, -, -⟩ := Cond.code_spec hn (atoms_spec (ws := ws) h _ (by rw [hw]; exact List.mem_cons_self))
    exact ⟨meth, c, h1, h2, h3, h4, h5, h6⟩
  · intro p e s m args below meth c s₁ B hml hP _
    have hh0 : s₁.heap = s.heap := by rw [B.state]; rfl
    have ht : ∀ x ∈ c.exceptionTable.toList, False := by
      obtain ⟨meth9, c9, h1, h2, -, -, -, -, h7, -⟩ := Cond.code_spec B.named (atoms_spec (ws := ws) B.pre _ (by rw [hw]; exact List.mem_cons_self))
      cases Option.some.inj (h1.symm.trans B.method)
      cases Option.some.inj (h2.symm.trans (Stand.of_body B).code)
      intro x hx
      rw [Array.isEmpty_iff.mp h7] at hx
      cases hx
    obtain ⟨t, a1, o, b1, b2, b3⟩ := body p e s m args below meth c s₁ B hml ht hP s₁ hh0 (Stand.of_body B)
    exact ⟨t, o, a1, b1, b2, b3⟩
/-- the table of a body with handlers -/
theorem vx_table {p : Program} {x y : MethodName} {S : Spec} {cc bytes : ByteArray} {maxL maxL' : Nat} {ret ret' : Option FieldType} {e : Env} {s s₁ : State} {m : MethodId} {args : Array Value} {below : List Frame} {meth : Method} {c : Code} {hh : List (Nat × Nat × Nat × Nat)}
    (B : BodyLoose p l y S cc maxL ret e s m args below meth c s₁) (h : (Cond.codeWith y bytes maxL' ret' hh).before args s = true) : c.exceptionTable.toList = tableOf hh := by
  obtain ⟨m9, meth9, c9, hn9, h1, h2, -, -, h6, -⟩ := Cond.codeWith_spec h
  cases Option.some.inj (hn9.symm.trans B.named)
  cases Option.some.inj (h1.symm.trans B.method)
  cases Option.some.inj (h2.symm.trans (Stand.of_body B).code)
  rw [← h6, table_eq]
end Bodies
end VXA
/-! ===== END ===== -/
/-! ===== BEGIN a static call of a method with an exception table ===== -/
section VXS
variable {p : Program} {l : Launch} {e : Env} {R : Room} {s : State} {m : MethodId} {args : Array Value} {below : List Frame} {meth : Method} {c : Code} {T : State} {H : Heap} {locs : List Loc} {cells slots : Nat}
abbrev vx_CSW (R : Room) (s : State) (args : Array Value) (own : String) (index : Nat) (y : MethodName) (bytes : ByteArray) (maxL : Nat) (ret : Option FieldType) (hh : List (Nat × Nat × Nat × Nat)) (ws : List Cond) (rm : Room) (mc ms n : Nat) : Prop :=
  (rm.cells = mc ∧ rm.slots = ms ∧ rm.frames + 1 ≤ R.frames ∧ 8 + (maxL + 11) + rm.locals ≤ R.locals ∧ (∀ w ∈ ws, ∀ (a' : Array Value) (U : State), s.WarmedH U.vm → w.before a' U = true) ∧ Cond.codeWith y bytes maxL ret hh ∈ ws) ∧
  (Cond.codeWith y bytes maxL ret hh).before args s = true ∧ (Cond.initialized y.cls).before args s = true ∧ (y.cls ≠ "java/lang/invoke/MethodHandle" ∧ y.cls ≠ "java/lang/invoke/VarHandle") ∧
  (∀ sig, parseMethodDescriptor y.desc = some sig → n = sig.parameters.length) ∧ (Cond.methodLink own index y).before args s = true ∧ (Cond.static y).before args s = true
theorem vx_cwSW {own : String} {index maxL mc ms : Nat} {y : MethodName} {bytes : ByteArray} {ret : Option FieldType} {hh : List (Nat × Nat × Nat × Nat)} {Ts ws ws' : List Cond} {rm : Room} (n : Nat) (ht : ∀ w ∈ Ts, w.before args s = true) (hT : GoodIn Ts (va_wsS own index y ws)) (hw : ws = Cond.codeWith y bytes maxL ret hh :: ws') (hrc : rm.cells = mc) (hrs : rm.slots = ms)
    (hd : y.cls ≠ "java/lang/invoke/MethodHandle" ∧ y.cls ≠ "java/lang/invoke/VarHandle" ∧ (parseMethodDescriptor y.desc).map (fun d => d.parameters.length) = some n) (hR : rm.frames + 1 ≤ R.frames ∧ 8 + (maxL + 11) + rm.locals ≤ R.locals) :
    vx_CSW R s args own index y bytes maxL ret hh ws rm mc ms n := by
  have ok : ∀ w ∈ va_wsS own index y ws, w.before args s = true := fun w h => ht w (hT w h).1
  have hG : GoodIn Ts ws := fun w h => hT w (by unfold va_wsS; exact List.mem_append_right _ h)
  have hc : Cond.codeWith y bytes maxL ret hh ∈ ws := by rw [hw]; exact List.mem_cons_self
  refine ⟨⟨hrc, hrs, hR.1, hR.2, pay_in ht hG, hc⟩, ht _ (hG _ hc).1, ok _ (by simp [va_wsS]), ⟨hd.1, hd.2.1⟩, fun sig h => ?_, ok _ (by simp [va_wsS]), ok _ (by simp [va_wsS])⟩
  have h2 := hd.2.2
  rw [h] at h2
  exact (Option.some.inj h2).symm
theorem vx_callSW (X : Stand p l e R s m args below meth c T locs cells slots) (hexec : p.tables.exec = Jvm.exec) {own : String} {index : Nat} {y : MethodName} {bytes : ByteArray} {maxL : Nat} {ret : Option FieldType} {hh : List (Nat × Nat × Nat × Nat)}
    (hown : s.vm.findClass own = some m.cls) (hlink : (Cond.methodLink own index y).before args s = true) (hstat : (Cond.static y).before args s = true) (hinit : (Cond.initialized y.cls).before args s = true)
    (hcode : (Cond.codeWith y bytes maxL ret hh).before args s = true) (hy : y.cls ≠ "java/lang/invoke/MethodHandle" ∧ y.cls ≠ "java/lang/invoke/VarHandle")
    {W9 : Nat} {Pre : Pt → Array Value → Prop} {Post : Pt → Array Value → Option Value → Pt → Prop} (hK : Back l R p e below s args y 3 W9 Pre Post)
    {g : JFrame} (hg : g.method = m) (hsize : g.locals.size = c.maxLocals) {argsL rest : List Value} (hlen : ∀ sig, parseMethodDescriptor y.desc = some sig → argsL.length = sig.parameters.length)
    (hstack : g.stack = argsL.reverse ++ rest) (hW : 2 * g.monitorRoom + (rest.map fun v => v.category).sum ≤ W9) (hdg : decode c.code g.pc = .ok (.invokestatic index, 3))
    (hpre : ∀ vm₁, s.WarmedH vm₁ → Pre ⟨T.setVm vm₁, locs, cells, slots⟩ argsL.toArray) :
    ∃ (v : Option Value) (vm₁ : Vm) (B : Pt), s.WarmedH vm₁ ∧ Stand p l e R s m args below meth c B.U B.locs B.cells B.slots ∧ Post ⟨T.setVm vm₁, locs, cells, slots⟩ argsL.toArray v B ∧
      ∀ target, Steps p.tables e below (B.U.setTop { g with pc := g.pc + 3, stack := v.toList ++ rest }) target → Steps p.tables e below (T.setTop g) target := by
  obtain ⟨mk, methM, cM, hnamed, hmethM, -, -, -, -, -, -, hsigM⟩ := Cond.codeWith_spec hcode
  have hstatic : methM.isStatic = true := Cond.static_spec hnamed hmethM hstat
  obtain ⟨kP, hkP, -⟩ := className_of_methodNamed hnamed
  have hinitP : kP.init = .initialized := Cond.initialized_spec (findClass_of_methodNamed hnamed) hkP hinit
  obtain ⟨vm₁, X₁, hstep₁⟩ := X.invokestatic hexec hown hlink hnamed hmethM hstatic hkP hinitP hy (g := g) hg (argsL := argsL) (rest := rest) (hlen _ hsigM) hstack hdg
  obtain ⟨v, B, X', hpost, hsteps⟩ := hK m meth c ⟨T.setVm vm₁, locs, cells, slots⟩ { g with stack := rest } (.invokestatic index) mk argsL.toArray X₁ hg hsize hdg hW (X₁.named hnamed) (hpre vm₁ X₁.warmed)
  exact ⟨v, vm₁, B, X₁.warmed, X', hpost, fun target h => hstep₁ _ fun acts => by rw [doInvoke_state]; exact hsteps.trans h⟩
theorem vx_runSW {y : MethodName} {bytes cc : ByteArray} {maxL nL mc ms n index : Nat} {ret : Option FieldType} {hh : List (Nat × Nat × Nat × Nat)} {ws : List Cond} {rm : Room} {Pc : Array Value → State → Prop} {Qc : Array Value → State → Outcome → State → Prop} {free : Addr → Prop} {Ts : List Cond} {own : String} {As rest : List Value} {g : JFrame}
    (S : CallFix p m c cc nL s args Ts own) (hM : Met l y ws rm Pc Qc mc ms free) (cw : vx_CSW R s args own index y bytes maxL ret hh ws rm mc ms n) (hp : PreS s H Pc As)
    (hg : g.method = m) (hn : As.length = n) (hsize : g.locals.size = nL) (hstack : g.stack = As.reverse ++ rest) (hW : 2 * g.monitorRoom + (rest.map fun v => v.category).sum ≤ 8) (hdg : decode cc g.pc = .ok (.invokestatic index, 3)) (hf : cells + mc ≤ R.cells ∧ slots + ms ≤ R.slots) :
    va_Run p l e R s m args below meth c H locs cells slots mc ms g rest (Qc As.toArray) (free) := by
  obtain ⟨⟨hrc, hrs, hfr, hlo, hws, hcw⟩, hcode, hini, hy, hlen, hl, hstt⟩ := cw
  have hK : Back l R p e below s args y 3 8 (PreOf R mc ms Pc) (PostOf Qc mc ms free) := va_backW (hh := hh) (bytes := bytes) (maxL := maxL) (ret := ret) hM hp.1 hrc hrs hfr hlo hws hcw (fun a' U hW => word_at hW (Or.inl (by first | rfl | simp [Cond.onTables, Cond.keeps, Cond.steady])) hini)
  obtain ⟨hx, hb, hml, ho, -⟩ := S
  intro T hT X
  obtain ⟨v, vm₁, ⟨U', l2, c2, s2⟩, hW₁, X', ⟨g', mk, t, L, e1, e2, hq, h1, hL, h2, h3⟩, st⟩ := vx_callSW X hx (hh := hh) (bytes := bytes) (maxL := maxL) (ret := ret) ho hl hstt hini hcode hy hK hg (hsize.trans hml.symm) (argsL := As) (rest := rest) (fun sig h => hn.trans (hlen sig h)) hstack hW (by rw [hb]; exact hdg)
    (fun vm₁ hW₁ => ⟨hf.1, hf.2, hp.2 (T.setVm vm₁) hT hW₁⟩)
  dsimp only [Pt.U, Pt.locs, Pt.cells, Pt.slots] at X' e1 e2 h1 h2 h3 st
  subst h1; subst h2; subst h3
  exact ⟨v, (T.setVm vm₁).calling g' mk As.toArray, t, U', L, hT, X', hL, e1, e2, hq, st⟩
/-- not caught here, past rows that name other classes: it goes on to the caller -/
theorem vx_outP {p : Program} {l : Launch} {e : Env} {R : Room} {s : State} {m : MethodId} {args : Array Value} {below : List Frame} {meth : Method} {c : Code} {H : Heap} {locs : List Loc} {cells slots : Nat} {free : Addr → Prop} {ls : Array Slot} {rest : List Value} {Qc : Array Value → State → Outcome → State → Prop} {XC : String → State → State → Prop}
    {pc : Nat} {own E : String} {ce : Cell} {q : Addr} {mc ms : Nat} (hown : s.vm.findClass own = some m.cls) (hlocks : meth.locks = false)
    (hpass : ∀ z ∈ c.exceptionTable.toList, covers z pc = false ∨ (z.catchType ≠ 0 ∧ ∃ nm : String, (Cond.classLink own z.catchType nm).before args s = true ∧ va_Nc E nm s)) (hcell : H[q]? = some ce) (hv : ce.vm = .none) (hcl : s.vm.findClass E = some ce.cls)
    (hx : ∀ t : State, t.heap = H → s.vm.Alike t.vm → XC E s t) (hf : ∀ z ∈ locs, free z.base) (hc : cells ≤ mc) (hs : slots ≤ ms) :
    vx_W p l e R s m args below meth c H locs cells slots (vx_MQ below Qc XC args s mc ms free) (F0 m pc ls rest) q := by
  intro T hT X
  have hpl : e.platform.magicAccessors = ({} : Platform).magicAccessors := by rw [X.admits.platform]
  obtain ⟨vm', hW', X', st⟩ := X.outThrough hlocks q (g := F0 m pc ls rest) rfl rfl rfl (cell := ce) (by rw [hT]; exact hcell) (by rw [hv]; rfl)
    (by obtain ⟨k9, h9, -⟩ := Vm.findClass_spec hcl; exact ⟨k9, h9⟩) (fun z hz => by
      rcases hpass z hz with h | ⟨hz0, nm, hl1, hn1⟩
      · exact Or.inl h
      · obtain ⟨c6, hc6, hcl6⟩ := Cond.classLink_spec hown hl1 e.platform hpl
        obtain ⟨a8, b8, h1, h2, h3⟩ := hn1
        cases Option.some.inj (h1.symm.trans hcl)
        cases Option.some.inj (h2.symm.trans hc6)
        exact Or.inr ⟨hz0, _, hcl6, h3⟩)
  obtain ⟨g₀, hfr⟩ := X'.frames_eq
  have hcell9 : ((T.setVm vm').setFrames (.throwing q :: below)).heap[q]? = some ce := by
    show T.heap[q]? = some ce
    rw [hT]; exact hcell
  have hend : Ended ((T.setVm vm').setFrames (.throwing q :: below)) below (.threw q) := State.frames_setFrames _ (State.cur_lt_of_frames hfr)
  refine ⟨(T.setVm vm').setFrames (.throwing q :: below), ?_, .threw q, X'.here.running, hend, Or.inr ⟨q, rfl, E, ce, locs, hx _ hT (X'.ends _).1.alike, hcell9, hv, hcl, (X'.ends _).1, (X'.ends _).2.mono hc hs, hf⟩⟩
  rw [X.pushThrowing_eq]
  exact st
/-- a thing of a world lies in the heap -/
theorem vx_lt {D : va_G} {cl : List vw_C} {ws : va_W} {H1 : Heap} (h : va_P D cl ws H1) {k : Nat} {q : Nat × va_E} (hk : ws[k]? = some q) : q.1 < H1.size := (h k q hk).lt
end VXS
/-! ===== END ===== -/
/-! ===== BEGIN methods with a table of their own: called by a name, returning or throwing ===== -/
section VXH
/-! vx_backW, vx_callVX, vx_callSX, vx_callVW, vx_runVW, vx_runVX, vx_runSX, vx_ofWH follow the same proofs as their sisters above (Free/Laws.lean, Shelf42/LK1.lean); vx_outP calls Shelf42/NT130.lean (outThrough). -/
section
variable {l : Launch} {R : Room} {p : Program} {e : Env} {below : List Frame} {s : State} {sargs : Array Value} {y : MethodName} {len W9 : Nat}
theorem vx_backW {ws : List Cond} {rm : Room} {Pc : Array Value → State → Prop} {Qc : Array Value → State → Outcome → State → Prop} {XC : String → State → State → Prop} {mc ms : Nat} {free : Addr → Prop} {bytes : ByteArray} {maxL : Nat} {ret : Option FieldType} {hh : List (Nat × Nat × Nat × Nat)}
    (hM : vx_Met l y ws rm Pc Qc XC mc ms free) (hblind : FrameBlind Pc) (hrc : rm.cells = mc) (hrs : rm.slots = ms)
    (hframes : rm.frames + 1 ≤ R.frames) (hlocals : W9 + (maxL + 11) + rm.locals ≤ R.locals)
    (hws : ∀ w ∈ ws, ∀ a' U, s.WarmedH U.vm → w.before a' U = true) (hcode : Cond.codeWith y bytes maxL ret hh ∈ ws) (hinit : ∀ a' U, s.WarmedH U.vm → (Cond.initialized y.cls).before a' U = true) :
    vx_Back l R p e below s sargs y len W9 (PreOf R mc ms Pc) (PostOf Qc mc ms free) (vx_Post XC mc ms free) := by
  intro m meth c A g ig mk a X hg hsize hdg hW hn hp
  have h1 : (headSpec ws rm).pre.before a A.U = true := atoms_intro fun w hw => hws w hw _ _ X.warmed
  have h2 : (Cond.codeWith y bytes maxL ret hh).before a A.U = true := hws _ hcode _ _ X.warmed
  have h3 : (Cond.initialized y.cls).before a A.U = true := hinit _ _ X.warmed
  have h4 : A.cells + (headSpec ws rm).room.cells ≤ R.cells := by rw [show (headSpec ws rm).room.cells = mc from hrc]; exact hp.1
  have h5 : A.slots + (headSpec ws rm).room.slots ≤ R.slots := by rw [show (headSpec ws rm).room.slots = ms from hrs]; exact hp.2.1
  have hPc : Pc a (A.U.calling g mk a) := hblind _ _ _ _ hp.2.2
  obtain ⟨U, Ls, c0, s0⟩ := A
  dsimp only [Pt.U, Pt.locs, Pt.cells, Pt.slots] at h1 h2 h3 h4 h5 X hn hPc ⊢
  obtain ⟨m9, methY, cY, hn9, hmY, hcY, -, hlY, -⟩ := Cond.codeWith_spec h2
  cases Option.some.inj (hn9.symm.trans hn)
  obtain ⟨kY, hkY, -⟩ := className_of_methodNamed hn
  have hinitY : kY.init = .initialized := Cond.initialized_spec (findClass_of_methodNamed hn) hkY h3
  have h : At U g.method c below := by rw [hg]; exact X.here
  have hlocals9 : W9 + (maxL + 11) + (headSpec ws rm).room.locals ≤ R.locals := hlocals
  have happ : (headSpec ws rm).appliesLoose y e.platform (U.calling g mk a) = true :=
    Spec.appliesLoose_calling (g := g) h hdg hn hkY hinitY
      (X.room_calling (g := g) (R' := (headSpec ws rm).room) hsize hmY hcY hframes (by rw [hlY]; omega) h4 h5) h1
  obtain ⟨mid, hmid⟩ := h.above
  have hfr : (U.setTop g).frames = (.java g :: mid) ++ below := by rw [State.frames_setTop' g h.top, hmid]; rfl
  obtain ⟨o, s₂, hsteps, -, hend, hq⟩ := Steps.callFree hM p X.admits X.cas X.clock (acts := []) hfr happ hPc trivial
  have hq' : vx_Q Qc XC mc ms free a (U.calling g mk a) o s₂ := hq
  rw [State.frames_setTop' g h.top] at hend
  obtain ⟨g₀, hg0⟩ := Option.isSome_iff_exists.mp h.top
  obtain ⟨r, hr⟩ := State.topJava?_eq_some.mp hg0
  have hr' : (({ U with heap := s₂.heap, slotsUsed := s₂.slotsUsed } : State).setVm s₂.vm).frames = .java g₀ :: r := hr
  rcases hq' with ⟨hqc, L, hfe, hL⟩ | ⟨q, rfl, E, ce, L, hx, hce, hcv, hcl, hW₂, hsm, hL⟩
  · obtain ⟨⟨v, rfl⟩, hW₂, e2, q2, q3, q4, q5, q6⟩ := id hfe
    have e3 : s₂ = ({ (U.calling g mk a).setFrames s₂.frames with heap := s₂.heap, slotsUsed := s₂.slotsUsed } : State).setVm s₂.vm := by
      have : s₂ = ({ s₂ with vm := (U.calling g mk a).vm } : State).setVm s₂.vm := rfl
      rw [e2] at this
      exact this
    obtain ⟨c₂, i₂, len₂, hc₂, hd₂, hf₂⟩ := hend
    have hW' : U.WarmedH s₂.vm := hW₂
    have hcc : c₂ = c := by
      have h1 : s₂.code? g.method = U.code? g.method := by
        rw [State.code?_eq, State.code?_eq, hW'.alike.method?]
      exact Option.some.inj (hc₂.symm.trans (h1.trans h.code))
    subst hcc
    have hlen : len₂ = len := by rw [hdg] at hd₂; cases hd₂; rfl
    subst hlen
    have hs₂ : s₂ = (({ U with heap := s₂.heap, slotsUsed := s₂.slotsUsed } : State).setVm s₂.vm).setTop { g with pc := g.pc + len₂, stack := v.toList ++ g.stack } := by
      refine e3.trans ?_
      rw [hf₂, State.calling_eq h.top, State.setFrames_setFrames, State.setTop_of_frames _ hr', hr]
      rfl
    have hsame : U.sameButNew ({ U with heap := s₂.heap, slotsUsed := s₂.slotsUsed } : State) L mc ms := by
      refine ⟨?_, q2, q3, q4, q5, q6⟩
      obtain ⟨t, ht, -⟩ := State.frames_cons hr
      show ({ U with heap := s₂.heap, slotsUsed := s₂.slotsUsed } : State) = { U.setFrames U.frames with heap := s₂.heap, slotsUsed := s₂.slotsUsed }
      rw [State.setFrames_self ht]
    subst hg
    refine Or.inl ⟨v, ⟨(({ U with heap := s₂.heap, slotsUsed := s₂.slotsUsed } : State).setVm s₂.vm), Ls ++ L, c0 + mc, s0 + ms⟩,
      ⟨X.admits, X.cas, X.clock, X.frames, X.room, X.hears, X.method, X.code, (X.here.setHeapUsed s₂.heap s₂.slotsUsed).setVm hW'.alike, X.tail, State.WarmedH.trans X.warmed hW', X.limits, X.bytes, X.same.trans (hsame.setVm s.vm)⟩,
      ⟨g, mk, s₂, L, rfl, rfl, hqc, rfl, hL, rfl, rfl⟩, ?_⟩
    show Steps p.tables e below _ ((({ U with heap := s₂.heap, slotsUsed := s₂.slotsUsed } : State).setVm s₂.vm).setTop { g with pc := g.pc + len₂, stack := v.toList ++ g.stack })
    rw [← hs₂]
    exact hsteps
  · obtain ⟨e2, q2, q3, q4, q5, q6⟩ := id hsm
    have e3 : s₂ = ({ (U.calling g mk a).setFrames s₂.frames with heap := s₂.heap, slotsUsed := s₂.slotsUsed } : State).setVm s₂.vm := by
      have : s₂ = ({ s₂ with vm := (U.calling g mk a).vm } : State).setVm s₂.vm := rfl
      rw [e2] at this
      exact this
    have hf₂ : s₂.frames = .throwing q :: .java g :: U.frames.tail := hend
    have hW' : U.WarmedH s₂.vm := hW₂
    have hs₂ : s₂ = ((({ U with heap := s₂.heap, slotsUsed := s₂.slotsUsed } : State).setVm s₂.vm).setTop g).pushFrame (.throwing q) := by
      refine e3.trans ?_
      rw [hf₂, State.calling_eq h.top, State.setFrames_setFrames, State.pushFrame, State.frames_setTop _ hr', State.setTop_of_frames _ hr', State.setFrames_setFrames, hr]
      rfl
    have hsame : U.sameButNew ({ U with heap := s₂.heap, slotsUsed := s₂.slotsUsed } : State) L mc ms := by
      refine ⟨?_, q2, q3, q4, q5, q6⟩
      obtain ⟨t, ht, -⟩ := State.frames_cons hr
      show ({ U with heap := s₂.heap, slotsUsed := s₂.slotsUsed } : State) = { U.setFrames U.frames with heap := s₂.heap, slotsUsed := s₂.slotsUsed }
      rw [State.setFrames_self ht]
    subst hg
    refine Or.inr ⟨q, ⟨(({ U with heap := s₂.heap, slotsUsed := s₂.slotsUsed } : State).setVm s₂.vm), Ls ++ L, c0 + mc, s0 + ms⟩,
      ⟨X.admits, X.cas, X.clock, X.frames, X.room, X.hears, X.method, X.code, (X.here.setHeapUsed s₂.heap s₂.slotsUsed).setVm hW'.alike, X.tail, State.WarmedH.trans X.warmed hW', X.limits, X.bytes, X.same.trans (hsame.setVm s.vm)⟩,
      ⟨g, mk, s₂, L, E, ce, rfl, rfl, hx, hce, hcv, hcl, rfl, hL, rfl, rfl⟩, ?_⟩
    show Steps p.tables e below _ (((({ U with heap := s₂.heap, slotsUsed := s₂.slotsUsed } : State).setVm s₂.vm).setTop g).pushFrame (.throwing q))
    rw [← hs₂]
    exact hsteps
end
variable {p : Program} {l : Launch} {e : Env} {R : Room} {s : State} {m : MethodId} {args : Array Value} {below : List Frame} {meth : Method} {c : Code} {T : State} {H : Heap} {locs : List Loc} {cells slots : Nat}
theorem vx_callVX (X : Stand p l e R s m args below meth c T locs cells slots) (hexec : p.tables.exec = Jvm.exec) {own C : String} {index : Nat} {y : MethodName} {bytes : ByteArray} {maxL : Nat} {ret : Option FieldType} {hh : List (Nat × Nat × Nat × Nat)}
    (hown : s.vm.findClass own = some m.cls) (hlink : (Cond.methodLink own index y).before args s = true) (hinst : (Cond.instanceMethod y).before args s = true) (hsel : (Cond.selects C y y).before args s = true)
    (hcode : (Cond.codeWith y bytes maxL ret hh).before args s = true) (hy : y.cls ≠ "java/lang/invoke/MethodHandle" ∧ y.cls ≠ "java/lang/invoke/VarHandle")
    {W9 : Nat} {Pre : Pt → Array Value → Prop} {Post : Pt → Array Value → Option Value → Pt → Prop} {PostX : Pt → Array Value → Addr → Pt → Prop} (hK : vx_Back l R p e below s args y 3 W9 Pre Post PostX)
    {b : Addr} {cellB : Cell} (hcell : T.heap[b]? = some cellB) (hobj : cellB.vm.isStatics = false) (hcls : s.vm.findClass C = some cellB.cls)
    {g : JFrame} (hg : g.method = m) (hsize : g.locals.size = c.maxLocals) {argsL rest : List Value} (hlen : ∀ sig, parseMethodDescriptor y.desc = some sig → argsL.length = sig.parameters.length)
    (hstack : g.stack = argsL.reverse ++ .ref b :: rest) (hW : 2 * g.monitorRoom + (rest.map fun v => v.category).sum ≤ W9) (hdg : decode c.code g.pc = .ok (.invokevirtual index, 3))
    (hpre : ∀ vm₁, s.WarmedH vm₁ → Pre ⟨T.setVm vm₁, locs, cells, slots⟩ (Value.ref b :: argsL).toArray) :
    (∃ (v : Option Value) (vm₁ : Vm) (B : Pt), s.WarmedH vm₁ ∧ Stand p l e R s m args below meth c B.U B.locs B.cells B.slots ∧ Post ⟨T.setVm vm₁, locs, cells, slots⟩ (Value.ref b :: argsL).toArray v B ∧
      ∀ target, Steps p.tables e below (B.U.setTop { g with pc := g.pc + 3, stack := v.toList ++ rest }) target → Steps p.tables e below (T.setTop g) target) ∨
    (∃ (q : Addr) (vm₁ : Vm) (B : Pt), s.WarmedH vm₁ ∧ Stand p l e R s m args below meth c B.U B.locs B.cells B.slots ∧ PostX ⟨T.setVm vm₁, locs, cells, slots⟩ (Value.ref b :: argsL).toArray q B ∧
      Steps p.tables e below (T.setTop g) ((B.U.setTop { g with stack := rest }).pushFrame (.throwing q))) := by
  obtain ⟨mk, methM, hnamed, hmethM, hstM, habM⟩ := Cond.instanceMethod_spec hinst
  obtain ⟨m8, methM', cM, hn8, hmethM', -, -, -, -, -, -, hsigM⟩ := Cond.codeWith_spec hcode
  cases Option.some.inj (hn8.symm.trans hnamed)
  cases hmethM.symm.trans hmethM'
  obtain ⟨c2, r2, m2, q1, q2, q3, q4, kP, hkP, hkPi⟩ := Cond.selects_spec hsel
  cases hcls.symm.trans q1
  cases (State.methodFound?_of_named hnamed hy).symm.trans q2
  cases hnamed.symm.trans q3
  have hselP : selectMethod e.platform s.vm cellB.cls mk = .method mk := by rw [Launch.admits_selectMethod X.admits]; exact q4
  obtain ⟨vm₁, X₁, hstep₁⟩ := X.invokevirtual hexec hown hlink hnamed hmethM hstM hkP hkPi hy (a := b) (cell := cellB) hcell
    (fun z h => by rw [h] at hobj; cases hobj) hselP hmethM habM hkP hkPi (g := g) hg (argsL := argsL) (rest := rest) (hlen _ hsigM) hstack hdg
  rcases hK m meth c ⟨T.setVm vm₁, locs, cells, slots⟩ { g with stack := rest } (.invokevirtual index) mk (Value.ref b :: argsL).toArray X₁ hg hsize hdg hW (X₁.named hnamed) (hpre vm₁ X₁.warmed) with ⟨v, B, X', hpost, hsteps⟩ | ⟨q, B, X', hpost, hsteps⟩
  · exact Or.inl ⟨v, vm₁, B, X₁.warmed, X', hpost, fun target h => hstep₁ _ fun acts => by rw [doInvoke_state]; exact hsteps.trans h⟩
  · exact Or.inr ⟨q, vm₁, B, X₁.warmed, X', hpost, hstep₁ _ fun acts => by rw [doInvoke_state]; exact hsteps⟩
theorem vx_callSX (X : Stand p l e R s m args below meth c T locs cells slots) (hexec : p.tables.exec = Jvm.exec) {own : String} {index : Nat} {y : MethodName} {bytes : ByteArray} {maxL : Nat} {ret : Option FieldType} {hh : List (Nat × Nat × Nat × Nat)}
    (hown : s.vm.findClass own = some m.cls) (hlink : (Cond.methodLink own index y).before args s = true) (hstat : (Cond.static y).before args s = true) (hinit : (Cond.initialized y.cls).before args s = true)
    (hcode : (Cond.codeWith y bytes maxL ret hh).before args s = true) (hy : y.cls ≠ "java/lang/invoke/MethodHandle" ∧ y.cls ≠ "java/lang/invoke/VarHandle")
    {W9 : Nat} {Pre : Pt → Array Value → Prop} {Post : Pt → Array Value → Option Value → Pt → Prop} {PostX : Pt → Array Value → Addr → Pt → Prop} (hK : vx_Back l R p e below s args y 3 W9 Pre Post PostX)
    {g : JFrame} (hg : g.method = m) (hsize : g.locals.size = c.maxLocals) {argsL rest : List Value} (hlen : ∀ sig, parseMethodDescriptor y.desc = some sig → argsL.length = sig.parameters.length)
    (hstack : g.stack = argsL.reverse ++ rest) (hW : 2 * g.monitorRoom + (rest.map fun v => v.category).sum ≤ W9) (hdg : decode c.code g.pc = .ok (.invokestatic index, 3))
    (hpre : ∀ vm₁, s.WarmedH vm₁ → Pre ⟨T.setVm vm₁, locs, cells, slots⟩ argsL.toArray) :
    (∃ (v : Option Value) (vm₁ : Vm) (B : Pt), s.WarmedH vm₁ ∧ Stand p l e R s m args below meth c B.U B.locs B.cells B.slots ∧ Post ⟨T.setVm vm₁, locs, cells, slots⟩ argsL.toArray v B ∧
      ∀ target, Steps p.tables e below (B.U.setTop { g with pc := g.pc + 3, stack := v.toList ++ rest }) target → Steps p.tables e below (T.setTop g) target) ∨
    (∃ (q : Addr) (vm₁ : Vm) (B : Pt), s.WarmedH vm₁ ∧ Stand p l e R s m args below meth c B.U B.locs B.cells B.slots ∧ PostX ⟨T.setVm vm₁, locs, cells, slots⟩ argsL.toArray q B ∧
      Steps p.tables e below (T.setTop g) ((B.U.setTop { g with stack := rest }).pushFrame (.throwing q))) := by
  obtain ⟨mk, methM, cM, hnamed, hmethM, -, -, -, -, -, -, hsigM⟩ := Cond.codeWith_spec hcode
  have hstatic : methM.isStatic = true := Cond.static_spec hnamed hmethM hstat
  obtain ⟨kP, hkP, -⟩ := className_of_methodNamed hnamed
  have hinitP : kP.init = .initialized := Cond.initialized_spec (findClass_of_methodNamed hnamed) hkP hinit
  obtain ⟨vm₁, X₁, hstep₁⟩ := X.invokestatic hexec hown hlink hnamed hmethM hstatic hkP hinitP hy (g := g) hg (argsL := argsL) (rest := rest) (hlen _ hsigM) hstack hdg
  rcases hK m meth c ⟨T.setVm vm₁, locs, cells, slots⟩ { g with stack := rest } (.invokestatic index) mk argsL.toArray X₁ hg hsize hdg hW (X₁.named hnamed) (hpre vm₁ X₁.warmed) with ⟨v, B, X', hpost, hsteps⟩ | ⟨q, B, X', hpost, hsteps⟩
  · exact Or.inl ⟨v, vm₁, B, X₁.warmed, X', hpost, fun target h => hstep₁ _ fun acts => by rw [doInvoke_state]; exact hsteps.trans h⟩
  · exact Or.inr ⟨q, vm₁, B, X₁.warmed, X', hpost, hstep₁ _ fun acts => by rw [doInvoke_state]; exact hsteps⟩
theorem vx_callVW (X : Stand p l e R s m args below meth c T locs cells slots) (hexec : p.tables.exec = Jvm.exec) {own C : String} {index : Nat} {y : MethodName} {bytes : ByteArray} {maxL : Nat} {ret : Option FieldType} {hh : List (Nat × Nat × Nat × Nat)}
    (hown : s.vm.findClass own = some m.cls) (hlink : (Cond.methodLink own index y).before args s = true) (hinst : (Cond.instanceMethod y).before args s = true) (hsel : (Cond.selects C y y).before args s = true)
    (hcode : (Cond.codeWith y bytes maxL ret hh).before args s = true) (hy : y.cls ≠ "java/lang/invoke/MethodHandle" ∧ y.cls ≠ "java/lang/invoke/VarHandle")
    {W9 : Nat} {Pre : Pt → Array Value → Prop} {Post : Pt → Array Value → Option Value → Pt → Prop} (hK : Back l R p e below s args y 3 W9 Pre Post)
    {b : Addr} {cellB : Cell} (hcell : T.heap[b]? = some cellB) (hobj : cellB.vm.isStatics = false) (hcls : s.vm.findClass C = some cellB.cls)
    {g : JFrame} (hg : g.method = m) (hsize : g.locals.size = c.maxLocals) {argsL rest : List Value} (hlen : ∀ sig, parseMethodDescriptor y.desc = some sig → argsL.length = sig.parameters.length)
    (hstack : g.stack = argsL.reverse ++ .ref b :: rest) (hW : 2 * g.monitorRoom + (rest.map fun v => v.category).sum ≤ W9) (hdg : decode c.code g.pc = .ok (.invokevirtual index, 3))
    (hpre : ∀ vm₁, s.WarmedH vm₁ → Pre ⟨T.setVm vm₁, locs, cells, slots⟩ (Value.ref b :: argsL).toArray) :
    ∃ (v : Option Value) (vm₁ : Vm) (B : Pt), s.WarmedH vm₁ ∧ Stand p l e R s m args below meth c B.U B.locs B.cells B.slots ∧ Post ⟨T.setVm vm₁, locs, cells, slots⟩ (Value.ref b :: argsL).toArray v B ∧
      ∀ target, Steps p.tables e below (B.U.setTop { g with pc := g.pc + 3, stack := v.toList ++ rest }) target → Steps p.tables e below (T.setTop g) target := by
  obtain ⟨mk, methM, hnamed, hmethM, hstM, habM⟩ := Cond.instanceMethod_spec hinst
  obtain ⟨m8, methM', cM, hn8, hmethM', -, -, -, -, -, -, hsigM⟩ := Cond.codeWith_spec hcode
  cases Option.some.inj (hn8.symm.trans hnamed)
  cases hmethM.symm.trans hmethM'
  obtain ⟨c2, r2, m2, q1, q2, q3, q4, kP, hkP, hkPi⟩ := Cond.selects_spec hsel
  cases hcls.symm.trans q1
  cases (State.methodFound?_of_named hnamed hy).symm.trans q2
  cases hnamed.symm.trans q3
  have hselP : selectMethod e.platform s.vm cellB.cls mk = .method mk := by rw [Launch.admits_selectMethod X.admits]; exact q4
  obtain ⟨vm₁, X₁, hstep₁⟩ := X.invokevirtual hexec hown hlink hnamed hmethM hstM hkP hkPi hy (a := b) (cell := cellB) hcell
    (fun z h => by rw [h] at hobj; cases hobj) hselP hmethM habM hkP hkPi (g := g) hg (argsL := argsL) (rest := rest) (hlen _ hsigM) hstack hdg
  obtain ⟨v, B, X', hpost, hsteps⟩ := hK m meth c ⟨T.setVm vm₁, locs, cells, slots⟩ { g with stack := rest } (.invokevirtual index) mk (Value.ref b :: argsL).toArray X₁ hg hsize hdg hW (X₁.named hnamed) (hpre vm₁ X₁.warmed)
  exact ⟨v, vm₁, B, X₁.warmed, X', hpost, fun target h => hstep₁ _ fun acts => by rw [doInvoke_state]; exact hsteps.trans h⟩
abbrev vx_CVW (R : Room) (s : State) (args : Array Value) (own C : String) (index : Nat) (y : MethodName) (bytes : ByteArray) (maxL : Nat) (ret : Option FieldType) (hh : List (Nat × Nat × Nat × Nat)) (ws : List Cond) (rm : Room) (mc ms n : Nat) : Prop :=
  (rm.cells = mc ∧ rm.slots = ms ∧ rm.frames + 1 ≤ R.frames ∧ 8 + (maxL + 11) + rm.locals ≤ R.locals ∧ (∀ w ∈ ws, ∀ (a' : Array Value) (U : State), s.WarmedH U.vm → w.before a' U = true) ∧ Cond.codeWith y bytes maxL ret hh ∈ ws) ∧
  (Cond.codeWith y bytes maxL ret hh).before args s = true ∧ (Cond.initialized y.cls).before args s = true ∧ (y.cls ≠ "java/lang/invoke/MethodHandle" ∧ y.cls ≠ "java/lang/invoke/VarHandle") ∧
  (∀ sig, parseMethodDescriptor y.desc = some sig → n = sig.parameters.length) ∧ (Cond.methodLink own index y).before args s = true ∧ (Cond.instanceMethod y).before args s = true ∧ (Cond.selects C y y).before args s = true
theorem vx_cwVW {own C : String} {index maxL mc ms : Nat} {y : MethodName} {bytes : ByteArray} {ret : Option FieldType} {hh : List (Nat × Nat × Nat × Nat)} {Ts ws ws' : List Cond} {rm : Room} (n : Nat) (ht : ∀ w ∈ Ts, w.before args s = true) (hT : GoodIn Ts (wsV own index C y ws)) (hw : ws = Cond.codeWith y bytes maxL ret hh :: ws') (hrc : rm.cells = mc) (hrs : rm.slots = ms)
    (hd : y.cls = C ∧ y.cls ≠ "java/lang/invoke/MethodHandle" ∧ y.cls ≠ "java/lang/invoke/VarHandle" ∧ (parseMethodDescriptor y.desc).map (fun d => d.parameters.length) = some n) (hR : rm.frames + 1 ≤ R.frames ∧ 8 + (maxL + 11) + rm.locals ≤ R.locals) :
    vx_CVW R s args own C index y bytes maxL ret hh ws rm mc ms n := by
  obtain ⟨hC, hd⟩ := hd
  subst hC
  have ok : ∀ w ∈ wsV own index y.cls y ws, w.before args s = true := fun w h => ht w (hT w h).1
  have hG : GoodIn Ts ws := fun w h => hT w (by unfold wsV; exact List.mem_append_right _ h)
  have hc : Cond.codeWith y bytes maxL ret hh ∈ ws := by rw [hw]; exact List.mem_cons_self
  refine ⟨⟨hrc, hrs, hR.1, hR.2, pay_in ht hG, hc⟩, ht _ (hG _ hc).1, ok _ (by simp [wsV]), ⟨hd.1, hd.2.1⟩, fun sig h => ?_, ok _ (by simp [wsV]), ok _ (by simp [wsV]), ok _ (by simp [wsV])⟩
  have h2 := hd.2.2
  rw [h] at h2
  exact (Option.some.inj h2).symm
theorem vx_runVW {y : MethodName} {bytes cc : ByteArray} {maxL nL mc ms n index : Nat} {ret : Option FieldType} {hh : List (Nat × Nat × Nat × Nat)} {ws : List Cond} {rm : Room} {Pc : Array Value → State → Prop} {Qc : Array Value → State → Outcome → State → Prop} {free : Addr → Prop} {Ts : List Cond} {own C : String} {b : Addr} {As rest : List Value} {g : JFrame}
    (S : CallFix p m c cc nL s args Ts own) (hM : Met l y ws rm Pc Qc mc ms free) (cw : vx_CVW R s args own C index y bytes maxL ret hh ws rm mc ms n) (hp : PreV s H C b Pc As)
    (hg : g.method = m) (hn : As.length = n) (hsize : g.locals.size = nL) (hstack : g.stack = As.reverse ++ .ref b :: rest) (hW : 2 * g.monitorRoom + (rest.map fun v => v.category).sum ≤ 8) (hdg : decode cc g.pc = .ok (.invokevirtual index, 3)) (hf : cells + mc ≤ R.cells ∧ slots + ms ≤ R.slots) :
    va_Run p l e R s m args below meth c H locs cells slots mc ms g rest (Qc (Value.ref b :: As).toArray) free := by
  obtain ⟨⟨hrc, hrs, hfr, hlo, hws, hcw⟩, hcode, hini, hy, hlen, hl, hin, hse⟩ := cw
  have hK : Back l R p e below s args y 3 8 (PreOf R mc ms Pc) (PostOf Qc mc ms free) := va_backW (hh := hh) (bytes := bytes) (maxL := maxL) (ret := ret) hM hp.1 hrc hrs hfr hlo hws hcw (fun a' U hW => word_at hW (Or.inl (by first | rfl | simp [Cond.onTables, Cond.keeps, Cond.steady])) hini)
  obtain ⟨hx, hb, hml, ho, -⟩ := S
  obtain ⟨-, ⟨cellB, hcB, hoB, hclB⟩, hPc⟩ := hp
  intro T hT X
  obtain ⟨v, vm₁, ⟨U', l2, c2, s2⟩, hW₁, X', ⟨g', mk, t, L, e1, e2, hq, h1, hL, h2, h3⟩, st⟩ := vx_callVW X hx (C := C) (hh := hh) (bytes := bytes) (maxL := maxL) (ret := ret) ho hl hin hse hcode hy hK (by rw [hT]; exact hcB) hoB hclB hg (hsize.trans hml.symm) (argsL := As) (rest := rest) (fun sig h => hn.trans (hlen sig h)) hstack hW (by rw [hb]; exact hdg)
    (fun vm₁ hW₁ => ⟨hf.1, hf.2, hPc (T.setVm vm₁) hT hW₁⟩)
  dsimp only [Pt.U, Pt.locs, Pt.cells, Pt.slots] at X' e1 e2 h1 h2 h3 st
  subst h1; subst h2; subst h3
  exact ⟨v, (T.setVm vm₁).calling g' mk (Value.ref b :: As).toArray, t, U', L, hT, X', hL, e1, e2, hq, st⟩
section
variable {y : MethodName} {bytes cc : ByteArray} {maxL nL mc ms n index : Nat} {ret : Option FieldType} {ws : List Cond} {rm : Room} {Pc : Array Value → State → Prop} {Qc : Array Value → State → Outcome → State → Prop} {XC : String → State → State → Prop} {free : Addr → Prop} {Ts : List Cond} {own C : String} {b : Addr} {As rest : List Value} {g : JFrame}
theorem vx_runVX {hh : List (Nat × Nat × Nat × Nat)} (S : CallFix p m c cc nL s args Ts own) (hM : vx_Met l y ws rm Pc Qc XC mc ms free) (cw : vx_CVW R s args own C index y bytes maxL ret hh ws rm mc ms n) (hp : PreV s H C b Pc As)
    (hg : g.method = m) (hn : As.length = n) (hsize : g.locals.size = nL) (hstack : g.stack = As.reverse ++ .ref b :: rest) (hW : 2 * g.monitorRoom + (rest.map fun v => v.category).sum ≤ 8) (hdg : decode cc g.pc = .ok (.invokevirtual index, 3)) (hf : cells + mc ≤ R.cells ∧ slots + ms ≤ R.slots) :
    vx_Run p l e R s m args below meth c H locs cells slots mc ms g rest (Qc (Value.ref b :: As).toArray) XC free := by
  obtain ⟨⟨hrc, hrs, hfr, hlo, hws, hcw⟩, hcode, hini, hy, hlen, hl, hin, hse⟩ := cw
  have hK : vx_Back l R p e below s args y 3 8 (PreOf R mc ms Pc) (PostOf Qc mc ms free) (vx_Post XC mc ms free) := vx_backW (hh := hh) (bytes := bytes) (maxL := maxL) (ret := ret) hM hp.1 hrc hrs hfr hlo hws hcw (fun a' U hW => word_at hW (Or.inl (by first | rfl | simp [Cond.onTables, Cond.keeps, Cond.steady])) hini)
  obtain ⟨hx, hb, hml, ho, -⟩ := S
  obtain ⟨-, ⟨cellB, hcB, hoB, hclB⟩, hPc⟩ := hp
  intro T hT X
  rcases vx_callVX X hx (C := C) (hh := hh) (bytes := bytes) (maxL := maxL) (ret := ret) ho hl hin hse hcode hy hK (by rw [hT]; exact hcB) hoB hclB hg (hsize.trans hml.symm) (argsL := As) (rest := rest) (fun sig h => hn.trans (hlen sig h)) hstack hW (by rw [hb]; exact hdg)
    (fun vm₁ hW₁ => ⟨hf.1, hf.2, hPc (T.setVm vm₁) hT hW₁⟩) with ⟨v, vm₁, ⟨U', l2, c2, s2⟩, hW₁, X', ⟨g', mk, t, L, e1, e2, hq, h1, hL, h2, h3⟩, st⟩ | ⟨q, vm₁, ⟨U', l2, c2, s2⟩, hW₁, X', ⟨g', mk, t, L, E, ce, e1, e2, hq, hce, hcv, hcl, h1, hL, h2, h3⟩, st⟩
  · dsimp only [Pt.U, Pt.locs, Pt.cells, Pt.slots] at X' e1 e2 h1 h2 h3 st
    subst h1; subst h2; subst h3
    exact Or.inl ⟨v, (T.setVm vm₁).calling g' mk (Value.ref b :: As).toArray, t, U', L, hT, X', hL, e1, e2, hq, st⟩
  · dsimp only [Pt.U, Pt.locs, Pt.cells, Pt.slots] at X' e1 e2 h1 h2 h3 st hcl
    subst h1; subst h2; subst h3
    exact Or.inr ⟨q, (T.setVm vm₁).calling g' mk (Value.ref b :: As).toArray, t, U', L, E, ce, hT, X', hL, e1, e2, hq, hce, hcv, vx_cls hW₁ hcl, st⟩
theorem vx_runSX {hh : List (Nat × Nat × Nat × Nat)} (S : CallFix p m c cc nL s args Ts own) (hM : vx_Met l y ws rm Pc Qc XC mc ms free) (cw : vx_CSW R s args own index y bytes maxL ret hh ws rm mc ms n) (hp : PreS s H Pc As)
    (hg : g.method = m) (hn : As.length = n) (hsize : g.locals.size = nL) (hstack : g.stack = As.reverse ++ rest) (hW : 2 * g.monitorRoom + (rest.map fun v => v.category).sum ≤ 8) (hdg : decode cc g.pc = .ok (.invokestatic index, 3)) (hf : cells + mc ≤ R.cells ∧ slots + ms ≤ R.slots) :
    vx_Run p l e R s m args below meth c H locs cells slots mc ms g rest (Qc As.toArray) XC free := by
  obtain ⟨⟨hrc, hrs, hfr, hlo, hws, hcw⟩, hcode, hini, hy, hlen, hl, hstt⟩ := cw
  have hK : vx_Back l R p e below s args y 3 8 (PreOf R mc ms Pc) (PostOf Qc mc ms free) (vx_Post XC mc ms free) := vx_backW (hh := hh) (bytes := bytes) (maxL := maxL) (ret := ret) hM hp.1 hrc hrs hfr hlo hws hcw (fun a' U hW => word_at hW (Or.inl (by first | rfl | simp [Cond.onTables, Cond.keeps, Cond.steady])) hini)
  obtain ⟨hx, hb, hml, ho, -⟩ := S
  intro T hT X
  rcases vx_callSX X hx (hh := hh) (bytes := bytes) (maxL := maxL) (ret := ret) ho hl hstt hini hcode hy hK hg (hsize.trans hml.symm) (argsL := As) (rest := rest) (fun sig h => hn.trans (hlen sig h)) hstack hW (by rw [hb]; exact hdg)
    (fun vm₁ hW₁ => ⟨hf.1, hf.2, hp.2 (T.setVm vm₁) hT hW₁⟩) with ⟨v, vm₁, ⟨U', l2, c2, s2⟩, hW₁, X', ⟨g', mk, t, L, e1, e2, hq, h1, hL, h2, h3⟩, st⟩ | ⟨q, vm₁, ⟨U', l2, c2, s2⟩, hW₁, X', ⟨g', mk, t, L, E, ce, e1, e2, hq, hce, hcv, hcl, h1, hL, h2, h3⟩, st⟩
  · dsimp only [Pt.U, Pt.locs, Pt.cells, Pt.slots] at X' e1 e2 h1 h2 h3 st
    subst h1; subst h2; subst h3
    exact Or.inl ⟨v, (T.setVm vm₁).calling g' mk As.toArray, t, U', L, hT, X', hL, e1, e2, hq, st⟩
  · dsimp only [Pt.U, Pt.locs, Pt.cells, Pt.slots] at X' e1 e2 h1 h2 h3 st hcl
    subst h1; subst h2; subst h3
    exact Or.inr ⟨q, (T.setVm vm₁).calling g' mk As.toArray, t, U', L, E, ce, hT, X', hL, e1, e2, hq, hce, hcv, vx_cls hW₁ hcl, st⟩
end
end VXH
theorem vx_ofWH {l : Launch} {y : MethodName} {ws ws' : List Cond} {rm : Room} {Pc : Array Value → State → Prop} {Qc : Array Value → State → Outcome → State → Prop} {XC : String → State → State → Prop} {mc ms : Nat} {free : Addr → Prop} {cc : ByteArray} {maxL : Nat} {ret : Option FieldType} {hh : List (Nat × Nat × Nat × Nat)}
    (hy : plainName y.cls = true) (hw : ws = Cond.codeWith y cc maxL ret hh :: ws')
    (body : ∀ p e s m args below meth c s₁, BodyLoose p l y (headSpec ws rm) cc maxL ret e s m args below meth c s₁ → c.maxLocals = maxL → Pc args s →
      W p l e (headSpec ws rm).room s m args below meth c s.heap [] 0 0 (vx_MQ below Qc XC args s mc ms free) (entryFrame m args maxL)) : vx_Met l y ws rm Pc Qc XC mc ms free := by
  refine MetFree.of_bodyS (code := cc) (maxLocals := maxL) (ret := ret) hy ?_ ?_
  · intro args s m h hn
    obtain ⟨m9, meth, c, hn9, h1, h2, h3, h4, -, h5, h6, -⟩ := Cond.codeWith_spec (atoms_spec (ws := ws) h _ (by rw [hw]; exact List.mem_cons_self))
    cases hn.symm.trans hn9
    exact ⟨meth, c, h1, h2, h3, h4, h5, h6⟩
  · intro p e s m args below meth c s₁ B hml hP _
    have hh0 : s₁.heap = s.heap := by rw [B.state]; rfl
    obtain ⟨t, a1, o, b1, b2, b3⟩ := body p e s m args below meth c s₁ B hml hP s₁ hh0 (Stand.of_body B)
    exact ⟨t, o, a1, b1, b2, b3⟩
/-! ===== END ===== -/
end
section
/-! ===== BEGIN printed: names, fields, word lists, decode rows ===== -/
def RX0 : String := "FableIndex$Book"
def TX0 : u_T := fun k => match k with
  | 0 => ("FableIndex$Book", "count", "I", false)
  | 1 => ("FableIndex$Book", "moral", "[I", true)
  | 2 => ("FableIndex$Book", "beasts", "[I", true)
  | 3 => ("FableIndex$Book", "home", "[I", true)
  | 4 => ("FableIndex$Book", "parent", "[I", true)
  | 5 => ("FableIndex$Book", "variants", "[I", true)
  | _ => ("FableIndex$Book", "ancestors", "[I", true)
def tyX0 : Nat → FieldType := fun k => match k with
  | 0 => .int
  | 1 => .array .int
  | 2 => .array .int
  | 3 => .array .int
  | 4 => .array .int
  | 5 => .array .int
  | _ => .array .int
abbrev wsX00 : List Cond := u_ws RX0 TX0 7
theorem nmX0 : ∀ a, a < 7 → ∀ b, b < 7 → a ≠ b → (TX0 a).2.1 ≠ (TX0 b).2.1 := by decide +kernel
theorem tyX0_ok : ∀ k, k < 7 → parseFieldDescriptor (TX0 k).2.2.1 = some (tyX0 k) := by decide +kernel
abbrev cX0_init : ByteArray := prog_2_method_1_code
def yX0_init : MethodName := ⟨RX0, "<init>", "()V"⟩
abbrev cX0_write : ByteArray := prog_2_method_2_code
def yX0_write : MethodName := ⟨RX0, "write", "(IIII)I"⟩
abbrev cX0_all : ByteArray := prog_2_method_3_code
def yX0_all : MethodName := ⟨RX0, "all", "()I"⟩
abbrev cX0_withMoral : ByteArray := prog_2_method_4_code
def yX0_withMoral : MethodName := ⟨RX0, "withMoral", "(I)I"⟩
abbrev cX0_withBeast : ByteArray := prog_2_method_5_code
def yX0_withBeast : MethodName := ⟨RX0, "withBeast", "(I)I"⟩
def RX1 : String := "FableIndex$Land"
def TX1 : u_T := fun k => match k with
  | 0 => ("FableIndex$Land", "ways", "[I", true)
  | 1 => ("FableIndex$Land", "bannedMorals", "[I", true)
  | 2 => ("FableIndex$Land", "bannedBeasts", "[I", true)
  | 3 => ("FableIndex$Land", "told", "[I", true)
  | 4 => ("FableIndex$Land", "allowed", "[I", true)
  | 5 => ("FableIndex$Land", "kept", "[I", true)
  | _ => ("FableIndex$Land", "hushed", "I", false)
def tyX1 : Nat → FieldType := fun k => match k with
  | 0 => .array .int
  | 1 => .array .int
  | 2 => .array .int
  | 3 => .array .int
  | 4 => .array .int
  | 5 => .array .int
  | _ => .int
abbrev wsX10 : List Cond := u_ws RX1 TX1 7
theorem nmX1 : ∀ a, a < 7 → ∀ b, b < 7 → a ≠ b → (TX1 a).2.1 ≠ (TX1 b).2.1 := by decide +kernel
theorem tyX1_ok : ∀ k, k < 7 → parseFieldDescriptor (TX1 k).2.2.1 = some (tyX1 k) := by decide +kernel
abbrev cX1_init : ByteArray := prog_3_method_1_code
def yX1_init : MethodName := ⟨RX1, "<init>", "()V"⟩
abbrev cX1_become : ByteArray := prog_3_method_2_code
def yX1_become : MethodName := ⟨RX1, "become", "(LFableIndex$Land;)V"⟩
abbrev cX1_turnWay : ByteArray := prog_3_method_3_code
def yX1_turnWay : MethodName := ⟨RX1, "turnWay", "(II)V"⟩
abbrev cX1_bans : ByteArray := prog_3_method_4_code
def yX1_bans : MethodName := ⟨RX1, "bans", "(LFableIndex$Book;II)Z"⟩
abbrev cX1_welcome : ByteArray := prog_3_method_5_code
def yX1_welcome : MethodName := ⟨RX1, "welcome", "(LFableIndex$Book;I)I"⟩
abbrev cX1_count : ByteArray := prog_3_method_6_code
def yX1_count : MethodName := ⟨RX1, "count", "(I)I"⟩
abbrev cX1_live : ByteArray := prog_3_method_7_code
def yX1_live : MethodName := ⟨RX1, "live", "(LFableIndex$Book;I)V"⟩
abbrev cX1_hush : ByteArray := prog_3_method_8_code
def yX1_hush : MethodName := ⟨RX1, "hush", "()V"⟩
abbrev cX1_spread : ByteArray := prog_3_method_9_code
def yX1_spread : MethodName := ⟨RX1, "spread", "(LFableIndex$Book;)Z"⟩
abbrev cX1_arriving : ByteArray := prog_3_method_10_code
def yX1_arriving : MethodName := ⟨RX1, "arriving", "(I)I"⟩
abbrev cX1_admitted : ByteArray := prog_3_method_11_code
def yX1_admitted : MethodName := ⟨RX1, "admitted", "(LFableIndex$Book;II)I"⟩
def RX2 : String := "FableIndex"
def TX2 : u_T := fun k => match k with
  | 0 => ("FableIndex", "book", "LFableIndex$Book;", true)
  | 1 => ("FableIndex", "land", "LFableIndex$Land;", true)
  | 2 => ("FableIndex", "trial", "LFableIndex$Land;", true)
  | _ => ("FableIndex", "season", "I", false)
def tyX2 : Nat → FieldType := fun k => match k with
  | 0 => .object "FableIndex$Book"
  | 1 => .object "FableIndex$Land"
  | 2 => .object "FableIndex$Land"
  | _ => .int
abbrev wsX20 : List Cond := u_ws RX2 TX2 4
theorem nmX2 : ∀ a, a < 4 → ∀ b, b < 4 → a ≠ b → (TX2 a).2.1 ≠ (TX2 b).2.1 := by decide +kernel
theorem tyX2_ok : ∀ k, k < 4 → parseFieldDescriptor (TX2 k).2.2.1 = some (tyX2 k) := by decide +kernel
abbrev cX2_init : ByteArray := prog_1_method_1_code
def yX2_init : MethodName := ⟨RX2, "<init>", "()V"⟩
abbrev cX2_addFable : ByteArray := prog_1_method_2_code
def yX2_addFable : MethodName := ⟨RX2, "addFable", "(III)I"⟩
abbrev cX2_addBeast : ByteArray := prog_1_method_3_code
def yX2_addBeast : MethodName := ⟨RX2, "addBeast", "(II)I"⟩
abbrev cX2_addVariant : ByteArray := prog_1_method_4_code
def yX2_addVariant : MethodName := ⟨RX2, "addVariant", "(IIII)I"⟩
abbrev cX2_turnPass : ByteArray := prog_1_method_5_code
def yX2_turnPass : MethodName := ⟨RX2, "turnPass", "(II)Z"⟩
abbrev cX2_turnMoral : ByteArray := prog_1_method_6_code
def yX2_turnMoral : MethodName := ⟨RX2, "turnMoral", "(II)Z"⟩
abbrev cX2_turnBeast : ByteArray := prog_1_method_7_code
def yX2_turnBeast : MethodName := ⟨RX2, "turnBeast", "(II)Z"⟩
abbrev cX2_tell : ByteArray := prog_1_method_8_code
def yX2_tell : MethodName := ⟨RX2, "tell", "(II)I"⟩
abbrev cX2_forget : ByteArray := prog_1_method_9_code
def yX2_forget : MethodName := ⟨RX2, "forget", "(II)I"⟩
abbrev cX2_passSeasons : ByteArray := prog_1_method_10_code
def yX2_passSeasons : MethodName := ⟨RX2, "passSeasons", "(I)I"⟩
abbrev cX2_moralOf : ByteArray := prog_1_method_11_code
def yX2_moralOf : MethodName := ⟨RX2, "moralOf", "(I)I"⟩
abbrev cX2_beastsOf : ByteArray := prog_1_method_12_code
def yX2_beastsOf : MethodName := ⟨RX2, "beastsOf", "(I)I"⟩
abbrev cX2_hasBeast : ByteArray := prog_1_method_13_code
def yX2_hasBeast : MethodName := ⟨RX2, "hasBeast", "(II)Z"⟩
abbrev cX2_homeOf : ByteArray := prog_1_method_14_code
def yX2_homeOf : MethodName := ⟨RX2, "homeOf", "(I)I"⟩
abbrev cX2_parentOf : ByteArray := prog_1_method_15_code
def yX2_parentOf : MethodName := ⟨RX2, "parentOf", "(I)I"⟩
abbrev cX2_variantsOf : ByteArray := prog_1_method_16_code
def yX2_variantsOf : MethodName := ⟨RX2, "variantsOf", "(I)I"⟩
abbrev cX2_valleysOf : ByteArray := prog_1_method_17_code
def yX2_valleysOf : MethodName := ⟨RX2, "valleysOf", "(I)I"⟩
abbrev cX2_nearestAncestor : ByteArray := prog_1_method_18_code
def yX2_nearestAncestor : MethodName := ⟨RX2, "nearestAncestor", "(II)I"⟩
abbrev cX2_kinship : ByteArray := prog_1_method_19_code
def yX2_kinship : MethodName := ⟨RX2, "kinship", "(II)I"⟩
abbrev cX2_sharedBeasts : ByteArray := prog_1_method_20_code
def yX2_sharedBeasts : MethodName := ⟨RX2, "sharedBeasts", "(II)I"⟩
abbrev cX2_isOpen : ByteArray := prog_1_method_21_code
def yX2_isOpen : MethodName := ⟨RX2, "isOpen", "(II)Z"⟩
abbrev cX2_isBanned : ByteArray := prog_1_method_22_code
def yX2_isBanned : MethodName := ⟨RX2, "isBanned", "(II)Z"⟩
abbrev cX2_isTold : ByteArray := prog_1_method_23_code
def yX2_isTold : MethodName := ⟨RX2, "isTold", "(II)Z"⟩
abbrev cX2_toldIn : ByteArray := prog_1_method_24_code
def yX2_toldIn : MethodName := ⟨RX2, "toldIn", "(I)I"⟩
abbrev cX2_allowedIn : ByteArray := prog_1_method_25_code
def yX2_allowedIn : MethodName := ⟨RX2, "allowedIn", "(I)I"⟩
abbrev cX2_bansOf : ByteArray := prog_1_method_26_code
def yX2_bansOf : MethodName := ⟨RX2, "bansOf", "(I)I"⟩
abbrev cX2_fables : ByteArray := prog_1_method_27_code
def yX2_fables : MethodName := ⟨RX2, "fables", "()I"⟩
abbrev cX2_season : ByteArray := prog_1_method_28_code
def yX2_season : MethodName := ⟨RX2, "season", "()I"⟩
abbrev cX2_tellings : ByteArray := prog_1_method_29_code
def yX2_tellings : MethodName := ⟨RX2, "tellings", "()I"⟩
abbrev cX2_silenced : ByteArray := prog_1_method_30_code
def yX2_silenced : MethodName := ⟨RX2, "silenced", "()I"⟩
abbrev cX2_fablesWithMoral : ByteArray := prog_1_method_31_code
def yX2_fablesWithMoral : MethodName := ⟨RX2, "fablesWithMoral", "(I)I"⟩
abbrev cX2_fablesWithBeast : ByteArray := prog_1_method_32_code
def yX2_fablesWithBeast : MethodName := ⟨RX2, "fablesWithBeast", "(I)I"⟩
abbrev cX2_favouriteMoral : ByteArray := prog_1_method_33_code
def yX2_favouriteMoral : MethodName := ⟨RX2, "favouriteMoral", "()I"⟩
abbrev cX2_favouriteBeast : ByteArray := prog_1_method_34_code
def yX2_favouriteBeast : MethodName := ⟨RX2, "favouriteBeast", "()I"⟩
abbrev cX2_seasonsUntil : ByteArray := prog_1_method_35_code
def yX2_seasonsUntil : MethodName := ⟨RX2, "seasonsUntil", "(II)I"⟩
abbrev cX2_tellingsAfter : ByteArray := prog_1_method_36_code
def yX2_tellingsAfter : MethodName := ⟨RX2, "tellingsAfter", "(I)I"⟩
abbrev cX2_bestPass : ByteArray := prog_1_method_37_code
def yX2_bestPass : MethodName := ⟨RX2, "bestPass", "(I)I"⟩
abbrev cX2_meanBeasts : ByteArray := prog_1_method_38_code
def yX2_meanBeasts : MethodName := ⟨RX2, "meanBeasts", "()D"⟩
abbrev cX2_digest : ByteArray := prog_1_method_39_code
def yX2_digest : MethodName := ⟨RX2, "digest", "()J"⟩
abbrev cX2_mixedWithFable : ByteArray := prog_1_method_40_code
def yX2_mixedWithFable : MethodName := ⟨RX2, "mixedWithFable", "(JI)J"⟩
abbrev cX2_mixedWithValley : ByteArray := prog_1_method_41_code
def yX2_mixedWithValley : MethodName := ⟨RX2, "mixedWithValley", "(JI)J"⟩
abbrev cX2_mixed : ByteArray := prog_1_method_42_code
def yX2_mixed : MethodName := ⟨RX2, "mixed", "(JI)J"⟩
abbrev cX2_tellingsWithPass : ByteArray := prog_1_method_43_code
def yX2_tellingsWithPass : MethodName := ⟨RX2, "tellingsWithPass", "(III)I"⟩
abbrev cX2_tellingsOfTrial : ByteArray := prog_1_method_44_code
def yX2_tellingsOfTrial : MethodName := ⟨RX2, "tellingsOfTrial", "(I)I"⟩
abbrev cX2_needFable : ByteArray := prog_1_method_45_code
def yX2_needFable : MethodName := ⟨RX2, "needFable", "(I)V"⟩
abbrev cX2_needFreePage : ByteArray := prog_1_method_46_code
def yX2_needFreePage : MethodName := ⟨RX2, "needFreePage", "()V"⟩
abbrev cX2_needMoral : ByteArray := prog_1_method_47_code
def yX2_needMoral : MethodName := ⟨RX2, "needMoral", "(I)V"⟩
abbrev cX2_needBeast : ByteArray := prog_1_method_48_code
def yX2_needBeast : MethodName := ⟨RX2, "needBeast", "(I)V"⟩
abbrev cX2_needValley : ByteArray := prog_1_method_49_code
def yX2_needValley : MethodName := ⟨RX2, "needValley", "(I)V"⟩
abbrev cX2_needSeasons : ByteArray := prog_1_method_50_code
def yX2_needSeasons : MethodName := ⟨RX2, "needSeasons", "(II)V"⟩
abbrev cX2_has : ByteArray := prog_1_method_51_code
def yX2_has : MethodName := ⟨RX2, "has", "(II)Z"⟩
abbrev cX2_turned : ByteArray := prog_1_method_52_code
def yX2_turned : MethodName := ⟨RX2, "turned", "(II)I"⟩
abbrev cX2_size : ByteArray := prog_1_method_53_code
def yX2_size : MethodName := ⟨RX2, "size", "(I)I"⟩
abbrev cX2_greatest : ByteArray := prog_1_method_54_code
def yX2_greatest : MethodName := ⟨RX2, "greatest", "(I)I"⟩
abbrev cX2_smallestAlone : ByteArray := prog_1_method_55_code
def yX2_smallestAlone : MethodName := ⟨RX2, "smallestAlone", "(I)I"⟩
def RX3 : String := "FableIndexModel"
def TX3 : u_T := fun k => match k with
  | 0 => ("FableIndexModel", "thrown", "I", false)
  | 1 => ("FableIndexModel", "fables", "I", false)
  | 2 => ("FableIndexModel", "season", "I", false)
  | 3 => ("FableIndexModel", "silenced", "I", false)
  | 4 => ("FableIndexModel", "moral", "[I", true)
  | 5 => ("FableIndexModel", "beasts", "[I", true)
  | 6 => ("FableIndexModel", "home", "[I", true)
  | 7 => ("FableIndexModel", "parent", "[I", true)
  | 8 => ("FableIndexModel", "told", "[I", true)
  | 9 => ("FableIndexModel", "morals", "[I", true)
  | 10 => ("FableIndexModel", "bans", "[I", true)
  | 11 => ("FableIndexModel", "passes", "[I", true)
  | 12 => ("FableIndexModel", "next", "[I", true)
  | _ => ("FableIndexModel", "kept", "[I", true)
def tyX3 : Nat → FieldType := fun k => match k with
  | 0 => .int
  | 1 => .int
  | 2 => .int
  | 3 => .int
  | 4 => .array .int
  | 5 => .array .int
  | 6 => .array .int
  | 7 => .array .int
  | 8 => .array .int
  | 9 => .array .int
  | 10 => .array .int
  | 11 => .array .int
  | 12 => .array .int
  | _ => .array .int
abbrev wsX30 : List Cond := u_ws RX3 TX3 14
theorem nmX3 : ∀ a, a < 14 → ∀ b, b < 14 → a ≠ b → (TX3 a).2.1 ≠ (TX3 b).2.1 := by decide +kernel
theorem tyX3_ok : ∀ k, k < 14 → parseFieldDescriptor (TX3 k).2.2.1 = some (tyX3 k) := by decide +kernel
abbrev cX3_init : ByteArray := prog_5_method_1_code
def yX3_init : MethodName := ⟨RX3, "<init>", "()V"⟩
abbrev cX3_thrown : ByteArray := prog_5_method_2_code
def yX3_thrown : MethodName := ⟨RX3, "thrown", "()I"⟩
abbrev cX3_fail : ByteArray := prog_5_method_3_code
def yX3_fail : MethodName := ⟨RX3, "fail", "(I)I"⟩
abbrev cX3_failed : ByteArray := prog_5_method_4_code
def yX3_failed : MethodName := ⟨RX3, "failed", "(I)Z"⟩
abbrev cX3_isIn : ByteArray := prog_5_method_5_code
def yX3_isIn : MethodName := ⟨RX3, "isIn", "(III)Z"⟩
abbrev cX3_isFable : ByteArray := prog_5_method_6_code
def yX3_isFable : MethodName := ⟨RX3, "isFable", "(I)Z"⟩
abbrev cX3_isValley : ByteArray := prog_5_method_7_code
def yX3_isValley : MethodName := ⟨RX3, "isValley", "(I)Z"⟩
abbrev cX3_isBeast : ByteArray := prog_5_method_8_code
def yX3_isBeast : MethodName := ⟨RX3, "isBeast", "(I)Z"⟩
abbrev cX3_isMoral : ByteArray := prog_5_method_9_code
def yX3_isMoral : MethodName := ⟨RX3, "isMoral", "(I)Z"⟩
abbrev cX3_has : ByteArray := prog_5_method_10_code
def yX3_has : MethodName := ⟨RX3, "has", "(II)Z"⟩
abbrev cX3_many : ByteArray := prog_5_method_11_code
def yX3_many : MethodName := ⟨RX3, "many", "(I)I"⟩
abbrev cX3_banned : ByteArray := prog_5_method_12_code
def yX3_banned : MethodName := ⟨RX3, "banned", "(II)Z"⟩
abbrev cX3_write : ByteArray := prog_5_method_13_code
def yX3_write : MethodName := ⟨RX3, "write", "(IIII)I"⟩
abbrev cX3_children : ByteArray := prog_5_method_14_code
def yX3_children : MethodName := ⟨RX3, "children", "(I)I"⟩
abbrev cX3_addFable : ByteArray := prog_5_method_15_code
def yX3_addFable : MethodName := ⟨RX3, "addFable", "(III)I"⟩
abbrev cX3_addBeast : ByteArray := prog_5_method_16_code
def yX3_addBeast : MethodName := ⟨RX3, "addBeast", "(II)I"⟩
abbrev cX3_addVariant : ByteArray := prog_5_method_17_code
def yX3_addVariant : MethodName := ⟨RX3, "addVariant", "(IIII)I"⟩
abbrev cX3_turnPass : ByteArray := prog_5_method_18_code
def yX3_turnPass : MethodName := ⟨RX3, "turnPass", "(II)Z"⟩
abbrev cX3_turnMoral : ByteArray := prog_5_method_19_code
def yX3_turnMoral : MethodName := ⟨RX3, "turnMoral", "(II)Z"⟩
abbrev cX3_turnBeast : ByteArray := prog_5_method_20_code
def yX3_turnBeast : MethodName := ⟨RX3, "turnBeast", "(II)Z"⟩
abbrev cX3_isPlace : ByteArray := prog_5_method_21_code
def yX3_isPlace : MethodName := ⟨RX3, "isPlace", "(II)Z"⟩
abbrev cX3_placesOf : ByteArray := prog_5_method_22_code
def yX3_placesOf : MethodName := ⟨RX3, "placesOf", "(I)I"⟩
abbrev cX3_tell : ByteArray := prog_5_method_23_code
def yX3_tell : MethodName := ⟨RX3, "tell", "(II)I"⟩
abbrev cX3_forget : ByteArray := prog_5_method_24_code
def yX3_forget : MethodName := ⟨RX3, "forget", "(II)I"⟩
abbrev cX3_all : ByteArray := prog_5_method_25_code
def yX3_all : MethodName := ⟨RX3, "all", "()I"⟩
abbrev cX3_comes : ByteArray := prog_5_method_26_code
def yX3_comes : MethodName := ⟨RX3, "comes", "(II)I"⟩
abbrev cX3_seasonOn : ByteArray := prog_5_method_27_code
def yX3_seasonOn : MethodName := ⟨RX3, "seasonOn", "()I"⟩
abbrev cX3_passSeasons : ByteArray := prog_5_method_28_code
def yX3_passSeasons : MethodName := ⟨RX3, "passSeasons", "(I)I"⟩
abbrev cX3_moralOf : ByteArray := prog_5_method_29_code
def yX3_moralOf : MethodName := ⟨RX3, "moralOf", "(I)I"⟩
abbrev cX3_beastsOf : ByteArray := prog_5_method_30_code
def yX3_beastsOf : MethodName := ⟨RX3, "beastsOf", "(I)I"⟩
abbrev cX3_hasBeast : ByteArray := prog_5_method_31_code
def yX3_hasBeast : MethodName := ⟨RX3, "hasBeast", "(II)Z"⟩
abbrev cX3_homeOf : ByteArray := prog_5_method_32_code
def yX3_homeOf : MethodName := ⟨RX3, "homeOf", "(I)I"⟩
abbrev cX3_parentOf : ByteArray := prog_5_method_33_code
def yX3_parentOf : MethodName := ⟨RX3, "parentOf", "(I)I"⟩
abbrev cX3_variantsOf : ByteArray := prog_5_method_34_code
def yX3_variantsOf : MethodName := ⟨RX3, "variantsOf", "(I)I"⟩
abbrev cX3_valleysOf : ByteArray := prog_5_method_35_code
def yX3_valleysOf : MethodName := ⟨RX3, "valleysOf", "(I)I"⟩
abbrev cX3_ancestors : ByteArray := prog_5_method_36_code
def yX3_ancestors : MethodName := ⟨RX3, "ancestors", "(I)I"⟩
abbrev cX3_nearest : ByteArray := prog_5_method_37_code
def yX3_nearest : MethodName := ⟨RX3, "nearest", "(II)I"⟩
abbrev cX3_nearestAncestor : ByteArray := prog_5_method_38_code
def yX3_nearestAncestor : MethodName := ⟨RX3, "nearestAncestor", "(II)I"⟩
abbrev cX3_kinship : ByteArray := prog_5_method_39_code
def yX3_kinship : MethodName := ⟨RX3, "kinship", "(II)I"⟩
abbrev cX3_sharedBeasts : ByteArray := prog_5_method_40_code
def yX3_sharedBeasts : MethodName := ⟨RX3, "sharedBeasts", "(II)I"⟩
abbrev cX3_isOpen : ByteArray := prog_5_method_41_code
def yX3_isOpen : MethodName := ⟨RX3, "isOpen", "(II)Z"⟩
abbrev cX3_isBanned : ByteArray := prog_5_method_42_code
def yX3_isBanned : MethodName := ⟨RX3, "isBanned", "(II)Z"⟩
abbrev cX3_isTold : ByteArray := prog_5_method_43_code
def yX3_isTold : MethodName := ⟨RX3, "isTold", "(II)Z"⟩
abbrev cX3_toldIn : ByteArray := prog_5_method_44_code
def yX3_toldIn : MethodName := ⟨RX3, "toldIn", "(I)I"⟩
abbrev cX3_allowed : ByteArray := prog_5_method_45_code
def yX3_allowed : MethodName := ⟨RX3, "allowed", "(I)I"⟩
abbrev cX3_allowedIn : ByteArray := prog_5_method_46_code
def yX3_allowedIn : MethodName := ⟨RX3, "allowedIn", "(I)I"⟩
abbrev cX3_bansIn : ByteArray := prog_5_method_47_code
def yX3_bansIn : MethodName := ⟨RX3, "bansIn", "(I)I"⟩
abbrev cX3_bansOf : ByteArray := prog_5_method_48_code
def yX3_bansOf : MethodName := ⟨RX3, "bansOf", "(I)I"⟩
abbrev cX3_fables : ByteArray := prog_5_method_49_code
def yX3_fables : MethodName := ⟨RX3, "fables", "()I"⟩
abbrev cX3_season : ByteArray := prog_5_method_50_code
def yX3_season : MethodName := ⟨RX3, "season", "()I"⟩
abbrev cX3_tellings : ByteArray := prog_5_method_51_code
def yX3_tellings : MethodName := ⟨RX3, "tellings", "()I"⟩
abbrev cX3_silenced : ByteArray := prog_5_method_52_code
def yX3_silenced : MethodName := ⟨RX3, "silenced", "()I"⟩
abbrev cX3_fablesWithMoral : ByteArray := prog_5_method_53_code
def yX3_fablesWithMoral : MethodName := ⟨RX3, "fablesWithMoral", "(I)I"⟩
abbrev cX3_fablesWithBeast : ByteArray := prog_5_method_54_code
def yX3_fablesWithBeast : MethodName := ⟨RX3, "fablesWithBeast", "(I)I"⟩
abbrev cX3_favourite : ByteArray := prog_5_method_55_code
def yX3_favourite : MethodName := ⟨RX3, "favourite", "(Z)I"⟩
abbrev cX3_favouriteMoral : ByteArray := prog_5_method_56_code
def yX3_favouriteMoral : MethodName := ⟨RX3, "favouriteMoral", "()I"⟩
abbrev cX3_favouriteBeast : ByteArray := prog_5_method_57_code
def yX3_favouriteBeast : MethodName := ⟨RX3, "favouriteBeast", "()I"⟩
abbrev cX3_keep : ByteArray := prog_5_method_58_code
def yX3_keep : MethodName := ⟨RX3, "keep", "()V"⟩
abbrev cX3_bringBack : ByteArray := prog_5_method_59_code
def yX3_bringBack : MethodName := ⟨RX3, "bringBack", "()V"⟩
abbrev cX3_seasonsUntil : ByteArray := prog_5_method_60_code
def yX3_seasonsUntil : MethodName := ⟨RX3, "seasonsUntil", "(II)I"⟩
abbrev cX3_after : ByteArray := prog_5_method_61_code
def yX3_after : MethodName := ⟨RX3, "after", "(I)I"⟩
abbrev cX3_tellingsAfter : ByteArray := prog_5_method_62_code
def yX3_tellingsAfter : MethodName := ⟨RX3, "tellingsAfter", "(I)I"⟩
abbrev cX3_bestPass : ByteArray := prog_5_method_63_code
def yX3_bestPass : MethodName := ⟨RX3, "bestPass", "(I)I"⟩
abbrev cX3_meanBeasts : ByteArray := prog_5_method_64_code
def yX3_meanBeasts : MethodName := ⟨RX3, "meanBeasts", "()D"⟩
abbrev cX3_one : ByteArray := prog_5_method_65_code
def yX3_one : MethodName := ⟨RX3, "one", "(Z)I"⟩
abbrev cX3_digest : ByteArray := prog_5_method_66_code
def yX3_digest : MethodName := ⟨RX3, "digest", "()J"⟩
def RJ6 : String := "java/lang/Integer"
def TJ6 : u_T := fun k => match k with
  | _ => ("", "", "", false)
def tyJ6 : Nat → FieldType := fun k => match k with
  | _ => .int
abbrev wsJ60 : List Cond := u_ws RJ6 TJ6 0
theorem nmJ6 : ∀ a, a < 0 → ∀ b, b < 0 → a ≠ b → (TJ6 a).2.1 ≠ (TJ6 b).2.1 := by decide +kernel
theorem tyJ6_ok : ∀ k, k < 0 → parseFieldDescriptor (TJ6 k).2.2.1 = some (tyJ6 k) := by decide +kernel
abbrev cJ6_bitCount_0f7a4 : ByteArray := prog_10_method_49_code
def yJ6_bitCount_0f7a4 : MethodName := ⟨RJ6, "bitCount", "(I)I"⟩
def RJ0 : String := "java/lang/String"
def TJ0 : u_T := fun k => match k with
  | _ => ("", "", "", false)
def tyJ0 : Nat → FieldType := fun k => match k with
  | _ => .int
abbrev wsJ00 : List Cond := u_ws RJ0 TJ0 0
theorem nmJ0 : ∀ a, a < 0 → ∀ b, b < 0 → a ≠ b → (TJ0 a).2.1 ≠ (TJ0 b).2.1 := by decide +kernel
theorem tyJ0_ok : ∀ k, k < 0 → parseFieldDescriptor (TJ0 k).2.2.1 = some (tyJ0 k) := by decide +kernel
def RJ10 : String := "java/lang/System"
def TJ10 : u_T := fun k => match k with
  | _ => ("", "", "", false)
def tyJ10 : Nat → FieldType := fun k => match k with
  | _ => .int
abbrev wsJ100 : List Cond := u_ws RJ10 TJ10 0
theorem nmJ10 : ∀ a, a < 0 → ∀ b, b < 0 → a ≠ b → (TJ10 a).2.1 ≠ (TJ10 b).2.1 := by decide +kernel
theorem tyJ10_ok : ∀ k, k < 0 → parseFieldDescriptor (TJ10 k).2.2.1 = some (tyJ10 k) := by decide +kernel
def RL : String := "FableIndexLaw"
abbrev cL_addFable : ByteArray := method_3_code
def yL_addFable : MethodName := ⟨RL, "addFable", "(LFableIndex;III[J)I"⟩
abbrev cL_addBeast : ByteArray := method_4_code
def yL_addBeast : MethodName := ⟨RL, "addBeast", "(LFableIndex;II[J)I"⟩
abbrev cL_addVariant : ByteArray := method_5_code
def yL_addVariant : MethodName := ⟨RL, "addVariant", "(LFableIndex;IIII[J)I"⟩
abbrev cL_turnPass : ByteArray := method_6_code
def yL_turnPass : MethodName := ⟨RL, "turnPass", "(LFableIndex;II[J)I"⟩
abbrev cL_turnMoral : ByteArray := method_7_code
def yL_turnMoral : MethodName := ⟨RL, "turnMoral", "(LFableIndex;II[J)I"⟩
abbrev cL_turnBeast : ByteArray := method_8_code
def yL_turnBeast : MethodName := ⟨RL, "turnBeast", "(LFableIndex;II[J)I"⟩
abbrev cL_tell : ByteArray := method_9_code
def yL_tell : MethodName := ⟨RL, "tell", "(LFableIndex;II[J)I"⟩
abbrev cL_forget : ByteArray := method_10_code
def yL_forget : MethodName := ⟨RL, "forget", "(LFableIndex;II[J)I"⟩
abbrev cL_passSeasons : ByteArray := method_11_code
def yL_passSeasons : MethodName := ⟨RL, "passSeasons", "(LFableIndex;I[J)I"⟩
abbrev cL_moralOf : ByteArray := method_12_code
def yL_moralOf : MethodName := ⟨RL, "moralOf", "(LFableIndex;I[J)I"⟩
abbrev cL_beastsOf : ByteArray := method_13_code
def yL_beastsOf : MethodName := ⟨RL, "beastsOf", "(LFableIndex;I[J)I"⟩
abbrev cL_hasBeast : ByteArray := method_14_code
def yL_hasBeast : MethodName := ⟨RL, "hasBeast", "(LFableIndex;II[J)I"⟩
abbrev cL_homeOf : ByteArray := method_15_code
def yL_homeOf : MethodName := ⟨RL, "homeOf", "(LFableIndex;I[J)I"⟩
abbrev cL_parentOf : ByteArray := method_16_code
def yL_parentOf : MethodName := ⟨RL, "parentOf", "(LFableIndex;I[J)I"⟩
abbrev cL_variantsOf : ByteArray := method_17_code
def yL_variantsOf : MethodName := ⟨RL, "variantsOf", "(LFableIndex;I[J)I"⟩
abbrev cL_valleysOf : ByteArray := method_18_code
def yL_valleysOf : MethodName := ⟨RL, "valleysOf", "(LFableIndex;I[J)I"⟩
abbrev cL_nearestAncestor : ByteArray := method_19_code
def yL_nearestAncestor : MethodName := ⟨RL, "nearestAncestor", "(LFableIndex;II[J)I"⟩
abbrev cL_kinship : ByteArray := method_20_code
def yL_kinship : MethodName := ⟨RL, "kinship", "(LFableIndex;II[J)I"⟩
abbrev cL_sharedBeasts : ByteArray := method_21_code
def yL_sharedBeasts : MethodName := ⟨RL, "sharedBeasts", "(LFableIndex;II[J)I"⟩
abbrev cL_isOpen : ByteArray := method_22_code
def yL_isOpen : MethodName := ⟨RL, "isOpen", "(LFableIndex;II[J)I"⟩
abbrev cL_isBanned : ByteArray := method_23_code
def yL_isBanned : MethodName := ⟨RL, "isBanned", "(LFableIndex;II[J)I"⟩
abbrev cL_isTold : ByteArray := method_24_code
def yL_isTold : MethodName := ⟨RL, "isTold", "(LFableIndex;II[J)I"⟩
abbrev cL_toldIn : ByteArray := method_25_code
def yL_toldIn : MethodName := ⟨RL, "toldIn", "(LFableIndex;I[J)I"⟩
abbrev cL_allowedIn : ByteArray := method_26_code
def yL_allowedIn : MethodName := ⟨RL, "allowedIn", "(LFableIndex;I[J)I"⟩
abbrev cL_bansOf : ByteArray := method_27_code
def yL_bansOf : MethodName := ⟨RL, "bansOf", "(LFableIndex;I[J)I"⟩
abbrev cL_fablesWithMoral : ByteArray := method_28_code
def yL_fablesWithMoral : MethodName := ⟨RL, "fablesWithMoral", "(LFableIndex;I[J)I"⟩
abbrev cL_fablesWithBeast : ByteArray := method_29_code
def yL_fablesWithBeast : MethodName := ⟨RL, "fablesWithBeast", "(LFableIndex;I[J)I"⟩
abbrev cL_seasonsUntil : ByteArray := method_30_code
def yL_seasonsUntil : MethodName := ⟨RL, "seasonsUntil", "(LFableIndex;II[J)I"⟩
abbrev cL_tellingsAfter : ByteArray := method_31_code
def yL_tellingsAfter : MethodName := ⟨RL, "tellingsAfter", "(LFableIndex;I[J)I"⟩
abbrev cL_bestPass : ByteArray := method_32_code
def yL_bestPass : MethodName := ⟨RL, "bestPass", "(LFableIndex;I[J)I"⟩
abbrev cL_law : ByteArray := code
def yL_law : MethodName := ⟨RL, "law", "([I)Z"⟩
def wsX0_init : List Cond := .code yX0_init cX0_init 1 none :: ([.methodLink RX0 3 objectInit, .instanceMethod objectInit, .code objectInit ⟨#[0xb1]⟩ 1 none, .fieldLink RX0 9 "FableIndex$Book" "count" "I", .arrayClass .int, .fieldLink RX0 15 "FableIndex$Book" "moral" "[I", .fieldLink RX0 19 "FableIndex$Book" "beasts" "[I", .fieldLink RX0 22 "FableIndex$Book" "home" "[I", .fieldLink RX0 25 "FableIndex$Book" "parent" "[I", .fieldLink RX0 28 "FableIndex$Book" "variants" "[I", .fieldLink RX0 31 "FableIndex$Book" "ancestors" "[I"] ++ wsX00)
def wsX0_write : List Cond := .code yX0_write cX0_write 6 (some .int) :: ([.fieldLink RX0 9 "FableIndex$Book" "count" "I", .fieldLink RX0 15 "FableIndex$Book" "moral" "[I", .fieldLink RX0 19 "FableIndex$Book" "beasts" "[I", .fieldLink RX0 22 "FableIndex$Book" "home" "[I", .fieldLink RX0 25 "FableIndex$Book" "parent" "[I", .fieldLink RX0 28 "FableIndex$Book" "variants" "[I", .fieldLink RX0 31 "FableIndex$Book" "ancestors" "[I"] ++ wsX00)
def wsX0_all : List Cond := .code yX0_all cX0_all 1 (some .int) :: ([.fieldLink RX0 9 "FableIndex$Book" "count" "I"] ++ wsX00)
def wsX0_withMoral : List Cond := .code yX0_withMoral cX0_withMoral 4 (some .int) :: ([.fieldLink RX0 9 "FableIndex$Book" "count" "I", .fieldLink RX0 15 "FableIndex$Book" "moral" "[I"] ++ wsX00)
def wsX2_has : List Cond := .code yX2_has cX2_has 2 (some .boolean) :: ([])
def wsX0_withBeast : List Cond := .code yX0_withBeast cX0_withBeast 4 (some .int) :: ([.fieldLink RX0 9 "FableIndex$Book" "count" "I", .fieldLink RX0 19 "FableIndex$Book" "beasts" "[I", .static yX2_has, .initialized RX2, .code yX2_has cX2_has 2 (some .boolean)] ++ wsX00)
def wsX1_init : List Cond := .code yX1_init cX1_init 1 none :: ([.methodLink RX1 3 objectInit, .instanceMethod objectInit, .code objectInit ⟨#[0xb1]⟩ 1 none, .arrayClass .int, .fieldLink RX1 9 "FableIndex$Land" "ways" "[I", .fieldLink RX1 15 "FableIndex$Land" "bannedMorals" "[I", .fieldLink RX1 18 "FableIndex$Land" "bannedBeasts" "[I", .fieldLink RX1 21 "FableIndex$Land" "told" "[I", .fieldLink RX1 24 "FableIndex$Land" "allowed" "[I", .fieldLink RX1 27 "FableIndex$Land" "kept" "[I", .fieldLink RX1 30 "FableIndex$Land" "hushed" "I"] ++ wsX10)
def wsX1_become : List Cond := .code yX1_become cX1_become 3 none :: ([.fieldLink RX1 9 "FableIndex$Land" "ways" "[I", .fieldLink RX1 15 "FableIndex$Land" "bannedMorals" "[I", .fieldLink RX1 18 "FableIndex$Land" "bannedBeasts" "[I", .fieldLink RX1 21 "FableIndex$Land" "told" "[I", .fieldLink RX1 30 "FableIndex$Land" "hushed" "I"] ++ wsX10)
def wsX2_turned : List Cond := .code yX2_turned cX2_turned 2 (some .int) :: ([])
def wsX1_turnWay : List Cond := .code yX1_turnWay cX1_turnWay 3 none :: ([.fieldLink RX1 9 "FableIndex$Land" "ways" "[I", .static yX2_turned, .initialized RX2, .code yX2_turned cX2_turned 2 (some .int)] ++ wsX10)
def wsX1_bans : List Cond := .code yX1_bans cX1_bans 4 (some .boolean) :: ([.fieldLink RX1 15 "FableIndex$Land" "bannedMorals" "[I", .fieldLink RX1 38 "FableIndex$Book" "moral" "[I", .fieldLink RX1 18 "FableIndex$Land" "bannedBeasts" "[I", .fieldLink RX1 47 "FableIndex$Book" "beasts" "[I", .static yX2_has, .initialized RX2, .code yX2_has cX2_has 2 (some .boolean)] ++ wsX10 ++ wsX00)
def wsX1_welcome : List Cond := .code yX1_welcome cX1_welcome 5 (some .int) :: ([.fieldLink RX1 50 "FableIndex$Book" "count" "I", .methodLink RX1 53 yX1_bans, .instanceMethod yX1_bans, .selects RX1 yX1_bans yX1_bans, .initialized RX1, .code yX1_bans cX1_bans 4 (some .boolean), .fieldLink RX1 15 "FableIndex$Land" "bannedMorals" "[I", .fieldLink RX1 38 "FableIndex$Book" "moral" "[I", .fieldLink RX1 18 "FableIndex$Land" "bannedBeasts" "[I", .fieldLink RX1 47 "FableIndex$Book" "beasts" "[I", .static yX2_has, .initialized RX2, .code yX2_has cX2_has 2 (some .boolean)] ++ wsX00 ++ wsX10)
def wsJ6_bitCount_0f7a4 : List Cond := .code yJ6_bitCount_0f7a4 cJ6_bitCount_0f7a4 1 (some .int) :: ([.constant RJ6 265 (1431655765), .constant RJ6 266 (858993459), .constant RJ6 267 (252645135)])
def wsX2_size : List Cond := .code yX2_size cX2_size 1 (some .int) :: ([.methodLink RX2 253 yJ6_bitCount_0f7a4, .static yJ6_bitCount_0f7a4, .initialized RJ6, .code yJ6_bitCount_0f7a4 cJ6_bitCount_0f7a4 1 (some .int), .constant RJ6 265 (1431655765), .constant RJ6 266 (858993459), .constant RJ6 267 (252645135)])
def wsX1_count : List Cond := .code yX1_count cX1_count 4 (some .int) :: ([.fieldLink RX1 21 "FableIndex$Land" "told" "[I", .static yX2_size, .initialized RX2, .code yX2_size cX2_size 1 (some .int), .methodLink RX2 253 yJ6_bitCount_0f7a4, .static yJ6_bitCount_0f7a4, .initialized RJ6, .code yJ6_bitCount_0f7a4 cJ6_bitCount_0f7a4 1 (some .int), .constant RJ6 265 (1431655765), .constant RJ6 266 (858993459), .constant RJ6 267 (252645135)] ++ wsX10)
def wsX1_hush : List Cond := .code yX1_hush cX1_hush 2 none :: ([.fieldLink RX1 27 "FableIndex$Land" "kept" "[I", .fieldLink RX1 21 "FableIndex$Land" "told" "[I", .fieldLink RX1 24 "FableIndex$Land" "allowed" "[I", .fieldLink RX1 30 "FableIndex$Land" "hushed" "I", .static yX2_size, .initialized RX2, .code yX2_size cX2_size 1 (some .int), .methodLink RX2 253 yJ6_bitCount_0f7a4, .static yJ6_bitCount_0f7a4, .initialized RJ6, .code yJ6_bitCount_0f7a4 cJ6_bitCount_0f7a4 1 (some .int), .constant RJ6 265 (1431655765), .constant RJ6 266 (858993459), .constant RJ6 267 (252645135)] ++ wsX10)
def wsX1_arriving : List Cond := .code yX1_arriving cX1_arriving 4 (some .int) :: ([.fieldLink RX1 9 "FableIndex$Land" "ways" "[I", .fieldLink RX1 27 "FableIndex$Land" "kept" "[I", .static yX2_has, .initialized RX2, .code yX2_has cX2_has 2 (some .boolean)] ++ wsX10)
def wsX2_smallestAlone : List Cond := .code yX2_smallestAlone cX2_smallestAlone 1 (some .int) :: ([])
def wsX1_admitted : List Cond := .code yX1_admitted cX1_admitted 7 (some .int) :: ([.fieldLink RX1 24 "FableIndex$Land" "allowed" "[I", .fieldLink RX1 50 "FableIndex$Book" "count" "I", .fieldLink RX1 15 "FableIndex$Land" "bannedMorals" "[I", .fieldLink RX1 38 "FableIndex$Book" "moral" "[I", .fieldLink RX1 79 "FableIndex$Book" "variants" "[I", .static yX2_has, .initialized RX2, .code yX2_has cX2_has 2 (some .boolean), .static yX2_smallestAlone, .code yX2_smallestAlone cX2_smallestAlone 1 (some .int)] ++ wsX10 ++ wsX00)
def wsX1_spread : List Cond := .code yX1_spread cX1_spread 5 (some .boolean) :: ([.fieldLink RX1 27 "FableIndex$Land" "kept" "[I", .fieldLink RX1 21 "FableIndex$Land" "told" "[I", .methodLink RX1 72 yX1_arriving, .instanceMethod yX1_arriving, .selects RX1 yX1_arriving yX1_arriving, .initialized RX1, .code yX1_arriving cX1_arriving 4 (some .int), .fieldLink RX1 9 "FableIndex$Land" "ways" "[I", .static yX2_has, .initialized RX2, .code yX2_has cX2_has 2 (some .boolean), .methodLink RX1 75 yX1_admitted, .instanceMethod yX1_admitted, .selects RX1 yX1_admitted yX1_admitted, .code yX1_admitted cX1_admitted 7 (some .int), .fieldLink RX1 24 "FableIndex$Land" "allowed" "[I", .fieldLink RX1 50 "FableIndex$Book" "count" "I", .fieldLink RX1 15 "FableIndex$Land" "bannedMorals" "[I", .fieldLink RX1 38 "FableIndex$Book" "moral" "[I", .fieldLink RX1 79 "FableIndex$Book" "variants" "[I", .static yX2_smallestAlone, .code yX2_smallestAlone cX2_smallestAlone 1 (some .int)] ++ wsX10 ++ wsX00)
def wsX1_live_r1 : List Cond := [Cond.fieldLink RX1 24 "FableIndex$Land" "allowed" "[I", Cond.methodLink RX1 61 yX1_welcome, Cond.instanceMethod yX1_welcome, Cond.selects RX1 yX1_welcome yX1_welcome, Cond.initialized RX1, Cond.code yX1_welcome cX1_welcome 5 (some .int), Cond.fieldLink RX1 50 "FableIndex$Book" "count" "I", Cond.methodLink RX1 53 yX1_bans, Cond.instanceMethod yX1_bans, Cond.selects RX1 yX1_bans yX1_bans, Cond.code yX1_bans cX1_bans 4 (some .boolean), Cond.fieldLink RX1 15 "FableIndex$Land" "bannedMorals" "[I", Cond.fieldLink RX1 38 "FableIndex$Book" "moral" "[I", Cond.fieldLink RX1 18 "FableIndex$Land" "bannedBeasts" "[I", Cond.fieldLink RX1 47 "FableIndex$Book" "beasts" "[I", Cond.static yX2_has, Cond.initialized RX2, Cond.code yX2_has cX2_has 2 (some .boolean), Cond.methodLink RX1 65 yX1_hush, Cond.instanceMethod yX1_hush, Cond.selects RX1 yX1_hush yX1_hush, Cond.code yX1_hush cX1_hush 2 none, Cond.fieldLink RX1 27 "FableIndex$Land" "kept" "[I", Cond.fieldLink RX1 21 "FableIndex$Land" "told" "[I"]
def wsX1_live_r2 : List Cond := [Cond.fieldLink RX1 30 "FableIndex$Land" "hushed" "I", Cond.static yX2_size, Cond.code yX2_size cX2_size 1 (some .int), Cond.methodLink RX2 253 yJ6_bitCount_0f7a4, Cond.static yJ6_bitCount_0f7a4, Cond.initialized RJ6, Cond.code yJ6_bitCount_0f7a4 cJ6_bitCount_0f7a4 1 (some .int), Cond.constant RJ6 265 (1431655765), Cond.constant RJ6 266 (858993459), Cond.constant RJ6 267 (252645135), Cond.methodLink RX1 68 yX1_spread, Cond.instanceMethod yX1_spread, Cond.selects RX1 yX1_spread yX1_spread, Cond.code yX1_spread cX1_spread 5 (some .boolean), Cond.methodLink RX1 72 yX1_arriving, Cond.instanceMethod yX1_arriving, Cond.selects RX1 yX1_arriving yX1_arriving, Cond.code yX1_arriving cX1_arriving 4 (some .int), Cond.fieldLink RX1 9 "FableIndex$Land" "ways" "[I", Cond.methodLink RX1 75 yX1_admitted, Cond.instanceMethod yX1_admitted, Cond.selects RX1 yX1_admitted yX1_admitted, Cond.code yX1_admitted cX1_admitted 7 (some .int), Cond.fieldLink RX1 79 "FableIndex$Book" "variants" "[I"]
def wsX1_live_r3 : List Cond := [Cond.static yX2_smallestAlone, Cond.code yX2_smallestAlone cX2_smallestAlone 1 (some .int)]
def wsX1_live : List Cond := .code yX1_live cX1_live 5 none :: ((wsX1_live_r1 ++ (wsX1_live_r2 ++ wsX1_live_r3)) ++ wsX10 ++ wsX00)
def wsX2_init_r1 : List Cond := [Cond.methodLink RX2 1 objectInit, Cond.instanceMethod objectInit, Cond.code objectInit ⟨#[0xb1]⟩ 1 none, Cond.classLink RX2 7 RX0, Cond.instantiable RX0 7, Cond.initialized RX0, Cond.fieldLink RX2 10 "FableIndex" "book" "LFableIndex$Book;", Cond.classLink RX2 16 RX1, Cond.instantiable RX1 7, Cond.initialized RX1, Cond.fieldLink RX2 19 "FableIndex" "land" "LFableIndex$Land;", Cond.fieldLink RX2 23 "FableIndex" "trial" "LFableIndex$Land;", Cond.fieldLink RX2 26 "FableIndex" "season" "I", Cond.methodLink RX2 9 yX0_init, Cond.instanceMethod yX0_init, Cond.code yX0_init cX0_init 1 none, Cond.methodLink RX0 3 objectInit, Cond.fieldLink RX0 9 "FableIndex$Book" "count" "I", Cond.arrayClass .int, Cond.fieldLink RX0 15 "FableIndex$Book" "moral" "[I", Cond.fieldLink RX0 19 "FableIndex$Book" "beasts" "[I", Cond.fieldLink RX0 22 "FableIndex$Book" "home" "[I", Cond.fieldLink RX0 25 "FableIndex$Book" "parent" "[I", Cond.fieldLink RX0 28 "FableIndex$Book" "variants" "[I"]
def wsX2_init_r2 : List Cond := [Cond.fieldLink RX0 31 "FableIndex$Book" "ancestors" "[I", Cond.methodLink RX2 18 yX1_init, Cond.instanceMethod yX1_init, Cond.code yX1_init cX1_init 1 none, Cond.methodLink RX1 3 objectInit, Cond.fieldLink RX1 9 "FableIndex$Land" "ways" "[I", Cond.fieldLink RX1 15 "FableIndex$Land" "bannedMorals" "[I", Cond.fieldLink RX1 18 "FableIndex$Land" "bannedBeasts" "[I", Cond.fieldLink RX1 21 "FableIndex$Land" "told" "[I", Cond.fieldLink RX1 24 "FableIndex$Land" "allowed" "[I", Cond.fieldLink RX1 27 "FableIndex$Land" "kept" "[I", Cond.fieldLink RX1 30 "FableIndex$Land" "hushed" "I"]
def wsX2_init : List Cond := .code yX2_init cX2_init 1 none :: ((wsX2_init_r1 ++ wsX2_init_r2) ++ wsX00 ++ wsX20 ++ wsX10)
def wsX2_needMoral : List Cond := .code yX2_needMoral cX2_needMoral 1 none :: ([.classLink RX2 238 "java/lang/IndexOutOfBoundsException", .initialized "java/lang/IndexOutOfBoundsException"] ++ (vx_atS RX2 242 "java/lang/IndexOutOfBoundsException" ["java/lang/RuntimeException", "java/lang/Exception"]).filter goodWord)
def wsX2_needBeast : List Cond := .code yX2_needBeast cX2_needBeast 1 none :: ([.classLink RX2 238 "java/lang/IndexOutOfBoundsException", .initialized "java/lang/IndexOutOfBoundsException"] ++ (vx_atS RX2 242 "java/lang/IndexOutOfBoundsException" ["java/lang/RuntimeException", "java/lang/Exception"]).filter goodWord)
def wsX2_needValley : List Cond := .code yX2_needValley cX2_needValley 1 none :: ([.classLink RX2 238 "java/lang/IndexOutOfBoundsException", .initialized "java/lang/IndexOutOfBoundsException"] ++ (vx_atS RX2 242 "java/lang/IndexOutOfBoundsException" ["java/lang/RuntimeException", "java/lang/Exception"]).filter goodWord)
def wsX2_needFreePage : List Cond := .code yX2_needFreePage cX2_needFreePage 1 none :: ([.classLink RX2 58 "java/lang/IllegalStateException", .initialized "java/lang/IllegalStateException", .fieldLink RX2 10 "FableIndex" "book" "LFableIndex$Book;", .fieldLink RX2 146 "FableIndex$Book" "count" "I"] ++ wsX20 ++ wsX00 ++ (vx_atS RX2 62 "java/lang/IllegalStateException" ["java/lang/RuntimeException", "java/lang/Exception"]).filter goodWord)
def wsX2_addFable_r1 : List Cond := [Cond.fieldLink RX2 10 "FableIndex" "book" "LFableIndex$Book;", Cond.methodLink RX2 30 yX2_needMoral, Cond.static yX2_needMoral, Cond.initialized RX2, Cond.code yX2_needMoral cX2_needMoral 1 none, Cond.classLink RX2 238 "java/lang/IndexOutOfBoundsException", Cond.initialized "java/lang/IndexOutOfBoundsException", Cond.methodLink RX2 34 yX2_needBeast, Cond.static yX2_needBeast, Cond.code yX2_needBeast cX2_needBeast 1 none, Cond.methodLink RX2 37 yX2_needValley, Cond.static yX2_needValley, Cond.code yX2_needValley cX2_needValley 1 none, Cond.methodLink RX2 40 yX2_needFreePage, Cond.instanceMethod yX2_needFreePage, Cond.selects RX2 yX2_needFreePage yX2_needFreePage, Cond.code yX2_needFreePage cX2_needFreePage 1 none, Cond.classLink RX2 58 "java/lang/IllegalStateException", Cond.initialized "java/lang/IllegalStateException", Cond.fieldLink RX2 146 "FableIndex$Book" "count" "I", Cond.methodLink RX2 43 yX0_write, Cond.instanceMethod yX0_write, Cond.selects RX0 yX0_write yX0_write, Cond.initialized RX0]
def wsX2_addFable_r2 : List Cond := [Cond.code yX0_write cX0_write 6 (some .int), Cond.fieldLink RX0 9 "FableIndex$Book" "count" "I", Cond.fieldLink RX0 15 "FableIndex$Book" "moral" "[I", Cond.fieldLink RX0 19 "FableIndex$Book" "beasts" "[I", Cond.fieldLink RX0 22 "FableIndex$Book" "home" "[I", Cond.fieldLink RX0 25 "FableIndex$Book" "parent" "[I", Cond.fieldLink RX0 28 "FableIndex$Book" "variants" "[I", Cond.fieldLink RX0 31 "FableIndex$Book" "ancestors" "[I"]
def wsX2_addFable : List Cond := .code yX2_addFable cX2_addFable 4 (some .int) :: ((wsX2_addFable_r1 ++ wsX2_addFable_r2) ++ wsX20 ++ wsX00 ++ (vx_atS RX2 242 "java/lang/IndexOutOfBoundsException" ["java/lang/RuntimeException", "java/lang/Exception"]).filter goodWord ++ (vx_atS RX2 62 "java/lang/IllegalStateException" ["java/lang/RuntimeException", "java/lang/Exception"]).filter goodWord)
def wsX2_needFable : List Cond := .code yX2_needFable cX2_needFable 2 none :: ([.classLink RX2 238 "java/lang/IndexOutOfBoundsException", .initialized "java/lang/IndexOutOfBoundsException", .fieldLink RX2 10 "FableIndex" "book" "LFableIndex$Book;", .fieldLink RX2 146 "FableIndex$Book" "count" "I"] ++ wsX20 ++ wsX00 ++ (vx_atS RX2 242 "java/lang/IndexOutOfBoundsException" ["java/lang/RuntimeException", "java/lang/Exception"]).filter goodWord)
def wsX2_addBeast_r1 : List Cond := [Cond.classLink RX2 58 "java/lang/IllegalStateException", Cond.initialized "java/lang/IllegalStateException", Cond.fieldLink RX2 10 "FableIndex" "book" "LFableIndex$Book;", Cond.fieldLink RX2 50 "FableIndex$Book" "beasts" "[I", Cond.fieldLink RX2 65 "FableIndex$Book" "variants" "[I", Cond.methodLink RX2 47 yX2_needFable, Cond.instanceMethod yX2_needFable, Cond.selects RX2 yX2_needFable yX2_needFable, Cond.initialized RX2, Cond.code yX2_needFable cX2_needFable 2 none, Cond.classLink RX2 238 "java/lang/IndexOutOfBoundsException", Cond.initialized "java/lang/IndexOutOfBoundsException", Cond.fieldLink RX2 146 "FableIndex$Book" "count" "I", Cond.methodLink RX2 34 yX2_needBeast, Cond.static yX2_needBeast, Cond.code yX2_needBeast cX2_needBeast 1 none, Cond.methodLink RX2 54 yX2_has, Cond.static yX2_has, Cond.code yX2_has cX2_has 2 (some .boolean), Cond.methodLink RX2 70 yX2_size, Cond.static yX2_size, Cond.code yX2_size cX2_size 1 (some .int), Cond.methodLink RX2 253 yJ6_bitCount_0f7a4, Cond.static yJ6_bitCount_0f7a4]
def wsX2_addBeast_r2 : List Cond := [Cond.initialized RJ6, Cond.code yJ6_bitCount_0f7a4 cJ6_bitCount_0f7a4 1 (some .int), Cond.constant RJ6 265 (1431655765), Cond.constant RJ6 266 (858993459), Cond.constant RJ6 267 (252645135)]
def wsX2_addBeast : List Cond := .code yX2_addBeast cX2_addBeast 3 (some .int) :: ((wsX2_addBeast_r1 ++ wsX2_addBeast_r2) ++ wsX20 ++ wsX00 ++ (vx_atS RX2 62 "java/lang/IllegalStateException" ["java/lang/RuntimeException", "java/lang/Exception"]).filter goodWord ++ (vx_atS RX2 242 "java/lang/IndexOutOfBoundsException" ["java/lang/RuntimeException", "java/lang/Exception"]).filter goodWord)
def wsX2_addVariant_r1 : List Cond := [Cond.classLink RX2 58 "java/lang/IllegalStateException", Cond.initialized "java/lang/IllegalStateException", Cond.fieldLink RX2 10 "FableIndex" "book" "LFableIndex$Book;", Cond.fieldLink RX2 50 "FableIndex$Book" "beasts" "[I", Cond.fieldLink RX2 78 "FableIndex$Book" "moral" "[I", Cond.methodLink RX2 47 yX2_needFable, Cond.instanceMethod yX2_needFable, Cond.selects RX2 yX2_needFable yX2_needFable, Cond.initialized RX2, Cond.code yX2_needFable cX2_needFable 2 none, Cond.classLink RX2 238 "java/lang/IndexOutOfBoundsException", Cond.initialized "java/lang/IndexOutOfBoundsException", Cond.fieldLink RX2 146 "FableIndex$Book" "count" "I", Cond.methodLink RX2 34 yX2_needBeast, Cond.static yX2_needBeast, Cond.code yX2_needBeast cX2_needBeast 1 none, Cond.methodLink RX2 37 yX2_needValley, Cond.static yX2_needValley, Cond.code yX2_needValley cX2_needValley 1 none, Cond.methodLink RX2 40 yX2_needFreePage, Cond.instanceMethod yX2_needFreePage, Cond.selects RX2 yX2_needFreePage yX2_needFreePage, Cond.code yX2_needFreePage cX2_needFreePage 1 none, Cond.methodLink RX2 54 yX2_has]
def wsX2_addVariant_r2 : List Cond := [Cond.static yX2_has, Cond.code yX2_has cX2_has 2 (some .boolean), Cond.methodLink RX2 81 yX2_turned, Cond.static yX2_turned, Cond.code yX2_turned cX2_turned 2 (some .int), Cond.methodLink RX2 43 yX0_write, Cond.instanceMethod yX0_write, Cond.selects RX0 yX0_write yX0_write, Cond.initialized RX0, Cond.code yX0_write cX0_write 6 (some .int), Cond.fieldLink RX0 9 "FableIndex$Book" "count" "I", Cond.fieldLink RX0 15 "FableIndex$Book" "moral" "[I", Cond.fieldLink RX0 19 "FableIndex$Book" "beasts" "[I", Cond.fieldLink RX0 22 "FableIndex$Book" "home" "[I", Cond.fieldLink RX0 25 "FableIndex$Book" "parent" "[I", Cond.fieldLink RX0 28 "FableIndex$Book" "variants" "[I", Cond.fieldLink RX0 31 "FableIndex$Book" "ancestors" "[I"]
def wsX2_addVariant : List Cond := .code yX2_addVariant cX2_addVariant 6 (some .int) :: ((wsX2_addVariant_r1 ++ wsX2_addVariant_r2) ++ wsX20 ++ wsX00 ++ (vx_atS RX2 62 "java/lang/IllegalStateException" ["java/lang/RuntimeException", "java/lang/Exception"]).filter goodWord ++ (vx_atS RX2 242 "java/lang/IndexOutOfBoundsException" ["java/lang/RuntimeException", "java/lang/Exception"]).filter goodWord)
def wsX2_turnPass : List Cond := .code yX2_turnPass cX2_turnPass 3 (some .boolean) :: ([.classLink RX2 85 "java/lang/IllegalArgumentException", .initialized "java/lang/IllegalArgumentException", .fieldLink RX2 19 "FableIndex" "land" "LFableIndex$Land;", .fieldLink RX2 94 "FableIndex$Land" "ways" "[I", .methodLink RX2 37 yX2_needValley, .static yX2_needValley, .initialized RX2, .code yX2_needValley cX2_needValley 1 none, .classLink RX2 238 "java/lang/IndexOutOfBoundsException", .initialized "java/lang/IndexOutOfBoundsException", .methodLink RX2 90 yX1_turnWay, .instanceMethod yX1_turnWay, .selects RX1 yX1_turnWay yX1_turnWay, .initialized RX1, .code yX1_turnWay cX1_turnWay 3 none, .fieldLink RX1 9 "FableIndex$Land" "ways" "[I", .static yX2_turned, .code yX2_turned cX2_turned 2 (some .int), .methodLink RX2 54 yX2_has, .static yX2_has, .code yX2_has cX2_has 2 (some .boolean)] ++ wsX20 ++ wsX10 ++ (vx_atS RX2 89 "java/lang/IllegalArgumentException" ["java/lang/RuntimeException", "java/lang/Exception"]).filter goodWord ++ (vx_atS RX2 242 "java/lang/IndexOutOfBoundsException" ["java/lang/RuntimeException", "java/lang/Exception"]).filter goodWord)
def wsX2_turnMoral : List Cond := .code yX2_turnMoral cX2_turnMoral 3 (some .boolean) :: ([.fieldLink RX2 19 "FableIndex" "land" "LFableIndex$Land;", .fieldLink RX2 97 "FableIndex$Land" "bannedMorals" "[I", .methodLink RX2 37 yX2_needValley, .static yX2_needValley, .initialized RX2, .code yX2_needValley cX2_needValley 1 none, .classLink RX2 238 "java/lang/IndexOutOfBoundsException", .initialized "java/lang/IndexOutOfBoundsException", .methodLink RX2 30 yX2_needMoral, .static yX2_needMoral, .code yX2_needMoral cX2_needMoral 1 none, .methodLink RX2 81 yX2_turned, .static yX2_turned, .code yX2_turned cX2_turned 2 (some .int), .methodLink RX2 54 yX2_has, .static yX2_has, .code yX2_has cX2_has 2 (some .boolean)] ++ wsX20 ++ wsX10 ++ (vx_atS RX2 242 "java/lang/IndexOutOfBoundsException" ["java/lang/RuntimeException", "java/lang/Exception"]).filter goodWord)
def wsX2_turnBeast : List Cond := .code yX2_turnBeast cX2_turnBeast 3 (some .boolean) :: ([.fieldLink RX2 19 "FableIndex" "land" "LFableIndex$Land;", .fieldLink RX2 100 "FableIndex$Land" "bannedBeasts" "[I", .methodLink RX2 37 yX2_needValley, .static yX2_needValley, .initialized RX2, .code yX2_needValley cX2_needValley 1 none, .classLink RX2 238 "java/lang/IndexOutOfBoundsException", .initialized "java/lang/IndexOutOfBoundsException", .methodLink RX2 34 yX2_needBeast, .static yX2_needBeast, .code yX2_needBeast cX2_needBeast 1 none, .methodLink RX2 81 yX2_turned, .static yX2_turned, .code yX2_turned cX2_turned 2 (some .int), .methodLink RX2 54 yX2_has, .static yX2_has, .code yX2_has cX2_has 2 (some .boolean)] ++ wsX20 ++ wsX10 ++ (vx_atS RX2 242 "java/lang/IndexOutOfBoundsException" ["java/lang/RuntimeException", "java/lang/Exception"]).filter goodWord)
def wsX2_tell_r1 : List Cond := [Cond.classLink RX2 58 "java/lang/IllegalStateException", Cond.initialized "java/lang/IllegalStateException", Cond.fieldLink RX2 19 "FableIndex" "land" "LFableIndex$Land;", Cond.fieldLink RX2 103 "FableIndex$Land" "told" "[I", Cond.fieldLink RX2 10 "FableIndex" "book" "LFableIndex$Book;", Cond.methodLink RX2 47 yX2_needFable, Cond.instanceMethod yX2_needFable, Cond.selects RX2 yX2_needFable yX2_needFable, Cond.initialized RX2, Cond.code yX2_needFable cX2_needFable 2 none, Cond.classLink RX2 238 "java/lang/IndexOutOfBoundsException", Cond.initialized "java/lang/IndexOutOfBoundsException", Cond.fieldLink RX2 146 "FableIndex$Book" "count" "I", Cond.methodLink RX2 37 yX2_needValley, Cond.static yX2_needValley, Cond.code yX2_needValley cX2_needValley 1 none, Cond.methodLink RX2 54 yX2_has, Cond.static yX2_has, Cond.code yX2_has cX2_has 2 (some .boolean), Cond.methodLink RX2 108 yX1_bans, Cond.instanceMethod yX1_bans, Cond.selects RX1 yX1_bans yX1_bans, Cond.initialized RX1, Cond.code yX1_bans cX1_bans 4 (some .boolean)]
def wsX2_tell_r2 : List Cond := [Cond.fieldLink RX1 15 "FableIndex$Land" "bannedMorals" "[I", Cond.fieldLink RX1 38 "FableIndex$Book" "moral" "[I", Cond.fieldLink RX1 18 "FableIndex$Land" "bannedBeasts" "[I", Cond.fieldLink RX1 47 "FableIndex$Book" "beasts" "[I", Cond.methodLink RX2 114 yX1_count, Cond.instanceMethod yX1_count, Cond.selects RX1 yX1_count yX1_count, Cond.code yX1_count cX1_count 4 (some .int), Cond.fieldLink RX1 21 "FableIndex$Land" "told" "[I", Cond.static yX2_size, Cond.code yX2_size cX2_size 1 (some .int), Cond.methodLink RX2 253 yJ6_bitCount_0f7a4, Cond.static yJ6_bitCount_0f7a4, Cond.initialized RJ6, Cond.code yJ6_bitCount_0f7a4 cJ6_bitCount_0f7a4 1 (some .int), Cond.constant RJ6 265 (1431655765), Cond.constant RJ6 266 (858993459), Cond.constant RJ6 267 (252645135)]
def wsX2_tell : List Cond := .code yX2_tell cX2_tell 3 (some .int) :: ((wsX2_tell_r1 ++ wsX2_tell_r2) ++ wsX20 ++ wsX10 ++ wsX00 ++ (vx_atS RX2 62 "java/lang/IllegalStateException" ["java/lang/RuntimeException", "java/lang/Exception"]).filter goodWord ++ (vx_atS RX2 242 "java/lang/IndexOutOfBoundsException" ["java/lang/RuntimeException", "java/lang/Exception"]).filter goodWord)
def wsX2_forget_r1 : List Cond := [Cond.classLink RX2 58 "java/lang/IllegalStateException", Cond.initialized "java/lang/IllegalStateException", Cond.fieldLink RX2 19 "FableIndex" "land" "LFableIndex$Land;", Cond.fieldLink RX2 103 "FableIndex$Land" "told" "[I", Cond.methodLink RX2 47 yX2_needFable, Cond.instanceMethod yX2_needFable, Cond.selects RX2 yX2_needFable yX2_needFable, Cond.initialized RX2, Cond.code yX2_needFable cX2_needFable 2 none, Cond.classLink RX2 238 "java/lang/IndexOutOfBoundsException", Cond.initialized "java/lang/IndexOutOfBoundsException", Cond.fieldLink RX2 10 "FableIndex" "book" "LFableIndex$Book;", Cond.fieldLink RX2 146 "FableIndex$Book" "count" "I", Cond.methodLink RX2 37 yX2_needValley, Cond.static yX2_needValley, Cond.code yX2_needValley cX2_needValley 1 none, Cond.methodLink RX2 54 yX2_has, Cond.static yX2_has, Cond.code yX2_has cX2_has 2 (some .boolean), Cond.methodLink RX2 81 yX2_turned, Cond.static yX2_turned, Cond.code yX2_turned cX2_turned 2 (some .int), Cond.methodLink RX2 114 yX1_count, Cond.instanceMethod yX1_count]
def wsX2_forget_r2 : List Cond := [Cond.selects RX1 yX1_count yX1_count, Cond.initialized RX1, Cond.code yX1_count cX1_count 4 (some .int), Cond.fieldLink RX1 21 "FableIndex$Land" "told" "[I", Cond.static yX2_size, Cond.code yX2_size cX2_size 1 (some .int), Cond.methodLink RX2 253 yJ6_bitCount_0f7a4, Cond.static yJ6_bitCount_0f7a4, Cond.initialized RJ6, Cond.code yJ6_bitCount_0f7a4 cJ6_bitCount_0f7a4 1 (some .int), Cond.constant RJ6 265 (1431655765), Cond.constant RJ6 266 (858993459), Cond.constant RJ6 267 (252645135)]
def wsX2_forget : List Cond := .code yX2_forget cX2_forget 3 (some .int) :: ((wsX2_forget_r1 ++ wsX2_forget_r2) ++ wsX20 ++ wsX10 ++ wsX00 ++ (vx_atS RX2 62 "java/lang/IllegalStateException" ["java/lang/RuntimeException", "java/lang/Exception"]).filter goodWord ++ (vx_atS RX2 242 "java/lang/IndexOutOfBoundsException" ["java/lang/RuntimeException", "java/lang/Exception"]).filter goodWord)
def wsX2_needSeasons : List Cond := .code yX2_needSeasons cX2_needSeasons 2 none :: ([.classLink RX2 85 "java/lang/IllegalArgumentException", .initialized "java/lang/IllegalArgumentException"] ++ (vx_atS RX2 89 "java/lang/IllegalArgumentException" ["java/lang/RuntimeException", "java/lang/Exception"]).filter goodWord)
def wsX2_passSeasons_r1 : List Cond := [Cond.fieldLink RX2 19 "FableIndex" "land" "LFableIndex$Land;", Cond.fieldLink RX2 10 "FableIndex" "book" "LFableIndex$Book;", Cond.fieldLink RX2 26 "FableIndex" "season" "I", Cond.methodLink RX2 119 yX2_needSeasons, Cond.static yX2_needSeasons, Cond.initialized RX2, Cond.code yX2_needSeasons cX2_needSeasons 2 none, Cond.classLink RX2 85 "java/lang/IllegalArgumentException", Cond.initialized "java/lang/IllegalArgumentException", Cond.methodLink RX2 122 yX1_live, Cond.instanceMethod yX1_live, Cond.selects RX1 yX1_live yX1_live, Cond.initialized RX1, Cond.code yX1_live cX1_live 5 none, Cond.fieldLink RX1 24 "FableIndex$Land" "allowed" "[I", Cond.methodLink RX1 61 yX1_welcome, Cond.instanceMethod yX1_welcome, Cond.selects RX1 yX1_welcome yX1_welcome, Cond.code yX1_welcome cX1_welcome 5 (some .int), Cond.fieldLink RX1 50 "FableIndex$Book" "count" "I", Cond.methodLink RX1 53 yX1_bans, Cond.instanceMethod yX1_bans, Cond.selects RX1 yX1_bans yX1_bans, Cond.code yX1_bans cX1_bans 4 (some .boolean)]
def wsX2_passSeasons_r2 : List Cond := [Cond.fieldLink RX1 15 "FableIndex$Land" "bannedMorals" "[I", Cond.fieldLink RX1 38 "FableIndex$Book" "moral" "[I", Cond.fieldLink RX1 18 "FableIndex$Land" "bannedBeasts" "[I", Cond.fieldLink RX1 47 "FableIndex$Book" "beasts" "[I", Cond.static yX2_has, Cond.code yX2_has cX2_has 2 (some .boolean), Cond.methodLink RX1 65 yX1_hush, Cond.instanceMethod yX1_hush, Cond.selects RX1 yX1_hush yX1_hush, Cond.code yX1_hush cX1_hush 2 none, Cond.fieldLink RX1 27 "FableIndex$Land" "kept" "[I", Cond.fieldLink RX1 21 "FableIndex$Land" "told" "[I", Cond.fieldLink RX1 30 "FableIndex$Land" "hushed" "I", Cond.static yX2_size, Cond.code yX2_size cX2_size 1 (some .int), Cond.methodLink RX2 253 yJ6_bitCount_0f7a4, Cond.static yJ6_bitCount_0f7a4, Cond.initialized RJ6, Cond.code yJ6_bitCount_0f7a4 cJ6_bitCount_0f7a4 1 (some .int), Cond.constant RJ6 265 (1431655765), Cond.constant RJ6 266 (858993459), Cond.constant RJ6 267 (252645135), Cond.methodLink RX1 68 yX1_spread, Cond.instanceMethod yX1_spread]
def wsX2_passSeasons_r3 : List Cond := [Cond.selects RX1 yX1_spread yX1_spread, Cond.code yX1_spread cX1_spread 5 (some .boolean), Cond.methodLink RX1 72 yX1_arriving, Cond.instanceMethod yX1_arriving, Cond.selects RX1 yX1_arriving yX1_arriving, Cond.code yX1_arriving cX1_arriving 4 (some .int), Cond.fieldLink RX1 9 "FableIndex$Land" "ways" "[I", Cond.methodLink RX1 75 yX1_admitted, Cond.instanceMethod yX1_admitted, Cond.selects RX1 yX1_admitted yX1_admitted, Cond.code yX1_admitted cX1_admitted 7 (some .int), Cond.fieldLink RX1 79 "FableIndex$Book" "variants" "[I", Cond.static yX2_smallestAlone, Cond.code yX2_smallestAlone cX2_smallestAlone 1 (some .int), Cond.methodLink RX2 126 yX0_all, Cond.instanceMethod yX0_all, Cond.selects RX0 yX0_all yX0_all, Cond.initialized RX0, Cond.code yX0_all cX0_all 1 (some .int), Cond.fieldLink RX0 9 "FableIndex$Book" "count" "I", Cond.methodLink RX2 114 yX1_count, Cond.instanceMethod yX1_count, Cond.selects RX1 yX1_count yX1_count, Cond.code yX1_count cX1_count 4 (some .int)]
def wsX2_passSeasons : List Cond := .code yX2_passSeasons cX2_passSeasons 2 (some .int) :: ((wsX2_passSeasons_r1 ++ (wsX2_passSeasons_r2 ++ wsX2_passSeasons_r3)) ++ wsX20 ++ wsX10 ++ wsX00 ++ (vx_atS RX2 89 "java/lang/IllegalArgumentException" ["java/lang/RuntimeException", "java/lang/Exception"]).filter goodWord)
def wsX2_moralOf : List Cond := .code yX2_moralOf cX2_moralOf 2 (some .int) :: ([.fieldLink RX2 10 "FableIndex" "book" "LFableIndex$Book;", .fieldLink RX2 78 "FableIndex$Book" "moral" "[I", .methodLink RX2 47 yX2_needFable, .instanceMethod yX2_needFable, .selects RX2 yX2_needFable yX2_needFable, .initialized RX2, .code yX2_needFable cX2_needFable 2 none, .classLink RX2 238 "java/lang/IndexOutOfBoundsException", .initialized "java/lang/IndexOutOfBoundsException", .fieldLink RX2 146 "FableIndex$Book" "count" "I"] ++ wsX20 ++ wsX00 ++ (vx_atS RX2 242 "java/lang/IndexOutOfBoundsException" ["java/lang/RuntimeException", "java/lang/Exception"]).filter goodWord)
def wsX2_beastsOf : List Cond := .code yX2_beastsOf cX2_beastsOf 2 (some .int) :: ([.fieldLink RX2 10 "FableIndex" "book" "LFableIndex$Book;", .fieldLink RX2 50 "FableIndex$Book" "beasts" "[I", .methodLink RX2 47 yX2_needFable, .instanceMethod yX2_needFable, .selects RX2 yX2_needFable yX2_needFable, .initialized RX2, .code yX2_needFable cX2_needFable 2 none, .classLink RX2 238 "java/lang/IndexOutOfBoundsException", .initialized "java/lang/IndexOutOfBoundsException", .fieldLink RX2 146 "FableIndex$Book" "count" "I", .methodLink RX2 70 yX2_size, .static yX2_size, .code yX2_size cX2_size 1 (some .int), .methodLink RX2 253 yJ6_bitCount_0f7a4, .static yJ6_bitCount_0f7a4, .initialized RJ6, .code yJ6_bitCount_0f7a4 cJ6_bitCount_0f7a4 1 (some .int), .constant RJ6 265 (1431655765), .constant RJ6 266 (858993459), .constant RJ6 267 (252645135)] ++ wsX20 ++ wsX00 ++ (vx_atS RX2 242 "java/lang/IndexOutOfBoundsException" ["java/lang/RuntimeException", "java/lang/Exception"]).filter goodWord)
def wsX2_hasBeast : List Cond := .code yX2_hasBeast cX2_hasBeast 3 (some .boolean) :: ([.fieldLink RX2 10 "FableIndex" "book" "LFableIndex$Book;", .fieldLink RX2 50 "FableIndex$Book" "beasts" "[I", .methodLink RX2 47 yX2_needFable, .instanceMethod yX2_needFable, .selects RX2 yX2_needFable yX2_needFable, .initialized RX2, .code yX2_needFable cX2_needFable 2 none, .classLink RX2 238 "java/lang/IndexOutOfBoundsException", .initialized "java/lang/IndexOutOfBoundsException", .fieldLink RX2 146 "FableIndex$Book" "count" "I", .methodLink RX2 34 yX2_needBeast, .static yX2_needBeast, .code yX2_needBeast cX2_needBeast 1 none, .methodLink RX2 54 yX2_has, .static yX2_has, .code yX2_has cX2_has 2 (some .boolean)] ++ wsX20 ++ wsX00 ++ (vx_atS RX2 242 "java/lang/IndexOutOfBoundsException" ["java/lang/RuntimeException", "java/lang/Exception"]).filter goodWord)
def wsX2_homeOf : List Cond := .code yX2_homeOf cX2_homeOf 2 (some .int) :: ([.fieldLink RX2 10 "FableIndex" "book" "LFableIndex$Book;", .fieldLink RX2 130 "FableIndex$Book" "home" "[I", .methodLink RX2 47 yX2_needFable, .instanceMethod yX2_needFable, .selects RX2 yX2_needFable yX2_needFable, .initialized RX2, .code yX2_needFable cX2_needFable 2 none, .classLink RX2 238 "java/lang/IndexOutOfBoundsException", .initialized "java/lang/IndexOutOfBoundsException", .fieldLink RX2 146 "FableIndex$Book" "count" "I"] ++ wsX20 ++ wsX00 ++ (vx_atS RX2 242 "java/lang/IndexOutOfBoundsException" ["java/lang/RuntimeException", "java/lang/Exception"]).filter goodWord)
def wsX2_parentOf : List Cond := .code yX2_parentOf cX2_parentOf 2 (some .int) :: ([.fieldLink RX2 10 "FableIndex" "book" "LFableIndex$Book;", .fieldLink RX2 133 "FableIndex$Book" "parent" "[I", .methodLink RX2 47 yX2_needFable, .instanceMethod yX2_needFable, .selects RX2 yX2_needFable yX2_needFable, .initialized RX2, .code yX2_needFable cX2_needFable 2 none, .classLink RX2 238 "java/lang/IndexOutOfBoundsException", .initialized "java/lang/IndexOutOfBoundsException", .fieldLink RX2 146 "FableIndex$Book" "count" "I"] ++ wsX20 ++ wsX00 ++ (vx_atS RX2 242 "java/lang/IndexOutOfBoundsException" ["java/lang/RuntimeException", "java/lang/Exception"]).filter goodWord)
def wsX2_variantsOf : List Cond := .code yX2_variantsOf cX2_variantsOf 2 (some .int) :: ([.fieldLink RX2 10 "FableIndex" "book" "LFableIndex$Book;", .fieldLink RX2 65 "FableIndex$Book" "variants" "[I", .methodLink RX2 47 yX2_needFable, .instanceMethod yX2_needFable, .selects RX2 yX2_needFable yX2_needFable, .initialized RX2, .code yX2_needFable cX2_needFable 2 none, .classLink RX2 238 "java/lang/IndexOutOfBoundsException", .initialized "java/lang/IndexOutOfBoundsException", .fieldLink RX2 146 "FableIndex$Book" "count" "I", .methodLink RX2 70 yX2_size, .static yX2_size, .code yX2_size cX2_size 1 (some .int), .methodLink RX2 253 yJ6_bitCount_0f7a4, .static yJ6_bitCount_0f7a4, .initialized RJ6, .code yJ6_bitCount_0f7a4 cJ6_bitCount_0f7a4 1 (some .int), .constant RJ6 265 (1431655765), .constant RJ6 266 (858993459), .constant RJ6 267 (252645135)] ++ wsX20 ++ wsX00 ++ (vx_atS RX2 242 "java/lang/IndexOutOfBoundsException" ["java/lang/RuntimeException", "java/lang/Exception"]).filter goodWord)
def wsX2_valleysOf_r1 : List Cond := [Cond.fieldLink RX2 19 "FableIndex" "land" "LFableIndex$Land;", Cond.methodLink RX2 47 yX2_needFable, Cond.instanceMethod yX2_needFable, Cond.selects RX2 yX2_needFable yX2_needFable, Cond.initialized RX2, Cond.code yX2_needFable cX2_needFable 2 none, Cond.classLink RX2 238 "java/lang/IndexOutOfBoundsException", Cond.initialized "java/lang/IndexOutOfBoundsException", Cond.fieldLink RX2 10 "FableIndex" "book" "LFableIndex$Book;", Cond.fieldLink RX2 146 "FableIndex$Book" "count" "I", Cond.methodLink RX2 114 yX1_count, Cond.instanceMethod yX1_count, Cond.selects RX1 yX1_count yX1_count, Cond.initialized RX1, Cond.code yX1_count cX1_count 4 (some .int), Cond.fieldLink RX1 21 "FableIndex$Land" "told" "[I", Cond.static yX2_size, Cond.code yX2_size cX2_size 1 (some .int), Cond.methodLink RX2 253 yJ6_bitCount_0f7a4, Cond.static yJ6_bitCount_0f7a4, Cond.initialized RJ6, Cond.code yJ6_bitCount_0f7a4 cJ6_bitCount_0f7a4 1 (some .int), Cond.constant RJ6 265 (1431655765), Cond.constant RJ6 266 (858993459)]
def wsX2_valleysOf_r2 : List Cond := [Cond.constant RJ6 267 (252645135)]
def wsX2_valleysOf : List Cond := .code yX2_valleysOf cX2_valleysOf 2 (some .int) :: ((wsX2_valleysOf_r1 ++ wsX2_valleysOf_r2) ++ wsX20 ++ wsX00 ++ wsX10 ++ (vx_atS RX2 242 "java/lang/IndexOutOfBoundsException" ["java/lang/RuntimeException", "java/lang/Exception"]).filter goodWord)
def wsX2_greatest : List Cond := .code yX2_greatest cX2_greatest 2 (some .int) :: ([.methodLink RX2 54 yX2_has, .static yX2_has, .initialized RX2, .code yX2_has cX2_has 2 (some .boolean)])
def wsX2_nearestAncestor : List Cond := .code yX2_nearestAncestor cX2_nearestAncestor 3 (some .int) :: ([.fieldLink RX2 10 "FableIndex" "book" "LFableIndex$Book;", .fieldLink RX2 136 "FableIndex$Book" "ancestors" "[I", .methodLink RX2 47 yX2_needFable, .instanceMethod yX2_needFable, .selects RX2 yX2_needFable yX2_needFable, .initialized RX2, .code yX2_needFable cX2_needFable 2 none, .classLink RX2 238 "java/lang/IndexOutOfBoundsException", .initialized "java/lang/IndexOutOfBoundsException", .fieldLink RX2 146 "FableIndex$Book" "count" "I", .methodLink RX2 139 yX2_greatest, .static yX2_greatest, .code yX2_greatest cX2_greatest 2 (some .int), .methodLink RX2 54 yX2_has, .static yX2_has, .code yX2_has cX2_has 2 (some .boolean)] ++ wsX20 ++ wsX00 ++ (vx_atS RX2 242 "java/lang/IndexOutOfBoundsException" ["java/lang/RuntimeException", "java/lang/Exception"]).filter goodWord)
def wsX2_kinship : List Cond := .code yX2_kinship cX2_kinship 3 (some .int) :: ([.fieldLink RX2 10 "FableIndex" "book" "LFableIndex$Book;", .fieldLink RX2 136 "FableIndex$Book" "ancestors" "[I", .methodLink RX2 47 yX2_needFable, .instanceMethod yX2_needFable, .selects RX2 yX2_needFable yX2_needFable, .initialized RX2, .code yX2_needFable cX2_needFable 2 none, .classLink RX2 238 "java/lang/IndexOutOfBoundsException", .initialized "java/lang/IndexOutOfBoundsException", .fieldLink RX2 146 "FableIndex$Book" "count" "I", .methodLink RX2 70 yX2_size, .static yX2_size, .code yX2_size cX2_size 1 (some .int), .methodLink RX2 253 yJ6_bitCount_0f7a4, .static yJ6_bitCount_0f7a4, .initialized RJ6, .code yJ6_bitCount_0f7a4 cJ6_bitCount_0f7a4 1 (some .int), .constant RJ6 265 (1431655765), .constant RJ6 266 (858993459), .constant RJ6 267 (252645135)] ++ wsX20 ++ wsX00 ++ (vx_atS RX2 242 "java/lang/IndexOutOfBoundsException" ["java/lang/RuntimeException", "java/lang/Exception"]).filter goodWord)
def wsX2_sharedBeasts : List Cond := .code yX2_sharedBeasts cX2_sharedBeasts 3 (some .int) :: ([.fieldLink RX2 10 "FableIndex" "book" "LFableIndex$Book;", .fieldLink RX2 50 "FableIndex$Book" "beasts" "[I", .methodLink RX2 47 yX2_needFable, .instanceMethod yX2_needFable, .selects RX2 yX2_needFable yX2_needFable, .initialized RX2, .code yX2_needFable cX2_needFable 2 none, .classLink RX2 238 "java/lang/IndexOutOfBoundsException", .initialized "java/lang/IndexOutOfBoundsException", .fieldLink RX2 146 "FableIndex$Book" "count" "I", .methodLink RX2 70 yX2_size, .static yX2_size, .code yX2_size cX2_size 1 (some .int), .methodLink RX2 253 yJ6_bitCount_0f7a4, .static yJ6_bitCount_0f7a4, .initialized RJ6, .code yJ6_bitCount_0f7a4 cJ6_bitCount_0f7a4 1 (some .int), .constant RJ6 265 (1431655765), .constant RJ6 266 (858993459), .constant RJ6 267 (252645135)] ++ wsX20 ++ wsX00 ++ (vx_atS RX2 242 "java/lang/IndexOutOfBoundsException" ["java/lang/RuntimeException", "java/lang/Exception"]).filter goodWord)
def wsX2_isOpen : List Cond := .code yX2_isOpen cX2_isOpen 3 (some .boolean) :: ([.fieldLink RX2 19 "FableIndex" "land" "LFableIndex$Land;", .fieldLink RX2 94 "FableIndex$Land" "ways" "[I", .methodLink RX2 37 yX2_needValley, .static yX2_needValley, .initialized RX2, .code yX2_needValley cX2_needValley 1 none, .classLink RX2 238 "java/lang/IndexOutOfBoundsException", .initialized "java/lang/IndexOutOfBoundsException", .methodLink RX2 54 yX2_has, .static yX2_has, .code yX2_has cX2_has 2 (some .boolean)] ++ wsX20 ++ wsX10 ++ (vx_atS RX2 242 "java/lang/IndexOutOfBoundsException" ["java/lang/RuntimeException", "java/lang/Exception"]).filter goodWord)
def wsX2_isBanned : List Cond := .code yX2_isBanned cX2_isBanned 3 (some .boolean) :: ([.fieldLink RX2 19 "FableIndex" "land" "LFableIndex$Land;", .fieldLink RX2 10 "FableIndex" "book" "LFableIndex$Book;", .methodLink RX2 47 yX2_needFable, .instanceMethod yX2_needFable, .selects RX2 yX2_needFable yX2_needFable, .initialized RX2, .code yX2_needFable cX2_needFable 2 none, .classLink RX2 238 "java/lang/IndexOutOfBoundsException", .initialized "java/lang/IndexOutOfBoundsException", .fieldLink RX2 146 "FableIndex$Book" "count" "I", .methodLink RX2 37 yX2_needValley, .static yX2_needValley, .code yX2_needValley cX2_needValley 1 none, .methodLink RX2 108 yX1_bans, .instanceMethod yX1_bans, .selects RX1 yX1_bans yX1_bans, .initialized RX1, .code yX1_bans cX1_bans 4 (some .boolean), .fieldLink RX1 15 "FableIndex$Land" "bannedMorals" "[I", .fieldLink RX1 38 "FableIndex$Book" "moral" "[I", .fieldLink RX1 18 "FableIndex$Land" "bannedBeasts" "[I", .fieldLink RX1 47 "FableIndex$Book" "beasts" "[I", .static yX2_has, .code yX2_has cX2_has 2 (some .boolean)] ++ wsX20 ++ wsX00 ++ wsX10 ++ (vx_atS RX2 242 "java/lang/IndexOutOfBoundsException" ["java/lang/RuntimeException", "java/lang/Exception"]).filter goodWord)
def wsX2_isTold : List Cond := .code yX2_isTold cX2_isTold 3 (some .boolean) :: ([.fieldLink RX2 19 "FableIndex" "land" "LFableIndex$Land;", .fieldLink RX2 103 "FableIndex$Land" "told" "[I", .methodLink RX2 47 yX2_needFable, .instanceMethod yX2_needFable, .selects RX2 yX2_needFable yX2_needFable, .initialized RX2, .code yX2_needFable cX2_needFable 2 none, .classLink RX2 238 "java/lang/IndexOutOfBoundsException", .initialized "java/lang/IndexOutOfBoundsException", .fieldLink RX2 10 "FableIndex" "book" "LFableIndex$Book;", .fieldLink RX2 146 "FableIndex$Book" "count" "I", .methodLink RX2 37 yX2_needValley, .static yX2_needValley, .code yX2_needValley cX2_needValley 1 none, .methodLink RX2 54 yX2_has, .static yX2_has, .code yX2_has cX2_has 2 (some .boolean)] ++ wsX20 ++ wsX10 ++ wsX00 ++ (vx_atS RX2 242 "java/lang/IndexOutOfBoundsException" ["java/lang/RuntimeException", "java/lang/Exception"]).filter goodWord)
def wsX2_toldIn : List Cond := .code yX2_toldIn cX2_toldIn 2 (some .int) :: ([.fieldLink RX2 19 "FableIndex" "land" "LFableIndex$Land;", .fieldLink RX2 103 "FableIndex$Land" "told" "[I", .methodLink RX2 37 yX2_needValley, .static yX2_needValley, .initialized RX2, .code yX2_needValley cX2_needValley 1 none, .classLink RX2 238 "java/lang/IndexOutOfBoundsException", .initialized "java/lang/IndexOutOfBoundsException", .methodLink RX2 70 yX2_size, .static yX2_size, .code yX2_size cX2_size 1 (some .int), .methodLink RX2 253 yJ6_bitCount_0f7a4, .static yJ6_bitCount_0f7a4, .initialized RJ6, .code yJ6_bitCount_0f7a4 cJ6_bitCount_0f7a4 1 (some .int), .constant RJ6 265 (1431655765), .constant RJ6 266 (858993459), .constant RJ6 267 (252645135)] ++ wsX20 ++ wsX10 ++ (vx_atS RX2 242 "java/lang/IndexOutOfBoundsException" ["java/lang/RuntimeException", "java/lang/Exception"]).filter goodWord)
def wsX2_allowedIn_r1 : List Cond := [Cond.fieldLink RX2 19 "FableIndex" "land" "LFableIndex$Land;", Cond.fieldLink RX2 10 "FableIndex" "book" "LFableIndex$Book;", Cond.methodLink RX2 37 yX2_needValley, Cond.static yX2_needValley, Cond.initialized RX2, Cond.code yX2_needValley cX2_needValley 1 none, Cond.classLink RX2 238 "java/lang/IndexOutOfBoundsException", Cond.initialized "java/lang/IndexOutOfBoundsException", Cond.methodLink RX2 142 yX1_welcome, Cond.instanceMethod yX1_welcome, Cond.selects RX1 yX1_welcome yX1_welcome, Cond.initialized RX1, Cond.code yX1_welcome cX1_welcome 5 (some .int), Cond.fieldLink RX1 50 "FableIndex$Book" "count" "I", Cond.methodLink RX1 53 yX1_bans, Cond.instanceMethod yX1_bans, Cond.selects RX1 yX1_bans yX1_bans, Cond.code yX1_bans cX1_bans 4 (some .boolean), Cond.fieldLink RX1 15 "FableIndex$Land" "bannedMorals" "[I", Cond.fieldLink RX1 38 "FableIndex$Book" "moral" "[I", Cond.fieldLink RX1 18 "FableIndex$Land" "bannedBeasts" "[I", Cond.fieldLink RX1 47 "FableIndex$Book" "beasts" "[I", Cond.static yX2_has, Cond.code yX2_has cX2_has 2 (some .boolean)]
def wsX2_allowedIn_r2 : List Cond := [Cond.methodLink RX2 70 yX2_size, Cond.static yX2_size, Cond.code yX2_size cX2_size 1 (some .int), Cond.methodLink RX2 253 yJ6_bitCount_0f7a4, Cond.static yJ6_bitCount_0f7a4, Cond.initialized RJ6, Cond.code yJ6_bitCount_0f7a4 cJ6_bitCount_0f7a4 1 (some .int), Cond.constant RJ6 265 (1431655765), Cond.constant RJ6 266 (858993459), Cond.constant RJ6 267 (252645135)]
def wsX2_allowedIn : List Cond := .code yX2_allowedIn cX2_allowedIn 2 (some .int) :: ((wsX2_allowedIn_r1 ++ wsX2_allowedIn_r2) ++ wsX20 ++ wsX00 ++ wsX10 ++ (vx_atS RX2 242 "java/lang/IndexOutOfBoundsException" ["java/lang/RuntimeException", "java/lang/Exception"]).filter goodWord)
def wsX2_bansOf : List Cond := .code yX2_bansOf cX2_bansOf 2 (some .int) :: ([.fieldLink RX2 19 "FableIndex" "land" "LFableIndex$Land;", .fieldLink RX2 97 "FableIndex$Land" "bannedMorals" "[I", .fieldLink RX2 100 "FableIndex$Land" "bannedBeasts" "[I", .methodLink RX2 37 yX2_needValley, .static yX2_needValley, .initialized RX2, .code yX2_needValley cX2_needValley 1 none, .classLink RX2 238 "java/lang/IndexOutOfBoundsException", .initialized "java/lang/IndexOutOfBoundsException", .methodLink RX2 70 yX2_size, .static yX2_size, .code yX2_size cX2_size 1 (some .int), .methodLink RX2 253 yJ6_bitCount_0f7a4, .static yJ6_bitCount_0f7a4, .initialized RJ6, .code yJ6_bitCount_0f7a4 cJ6_bitCount_0f7a4 1 (some .int), .constant RJ6 265 (1431655765), .constant RJ6 266 (858993459), .constant RJ6 267 (252645135)] ++ wsX20 ++ wsX10 ++ (vx_atS RX2 242 "java/lang/IndexOutOfBoundsException" ["java/lang/RuntimeException", "java/lang/Exception"]).filter goodWord)
def wsX2_fables : List Cond := .code yX2_fables cX2_fables 1 (some .int) :: ([.fieldLink RX2 10 "FableIndex" "book" "LFableIndex$Book;", .fieldLink RX2 146 "FableIndex$Book" "count" "I"] ++ wsX20 ++ wsX00)
def wsX2_season : List Cond := .code yX2_season cX2_season 1 (some .int) :: ([.fieldLink RX2 26 "FableIndex" "season" "I"] ++ wsX20)
def wsX2_tellings : List Cond := .code yX2_tellings cX2_tellings 1 (some .int) :: ([.fieldLink RX2 19 "FableIndex" "land" "LFableIndex$Land;", .fieldLink RX2 10 "FableIndex" "book" "LFableIndex$Book;", .methodLink RX2 126 yX0_all, .instanceMethod yX0_all, .selects RX0 yX0_all yX0_all, .initialized RX0, .code yX0_all cX0_all 1 (some .int), .fieldLink RX0 9 "FableIndex$Book" "count" "I", .methodLink RX2 114 yX1_count, .instanceMethod yX1_count, .selects RX1 yX1_count yX1_count, .initialized RX1, .code yX1_count cX1_count 4 (some .int), .fieldLink RX1 21 "FableIndex$Land" "told" "[I", .static yX2_size, .initialized RX2, .code yX2_size cX2_size 1 (some .int), .methodLink RX2 253 yJ6_bitCount_0f7a4, .static yJ6_bitCount_0f7a4, .initialized RJ6, .code yJ6_bitCount_0f7a4 cJ6_bitCount_0f7a4 1 (some .int), .constant RJ6 265 (1431655765), .constant RJ6 266 (858993459), .constant RJ6 267 (252645135)] ++ wsX20 ++ wsX00 ++ wsX10)
def wsX2_silenced : List Cond := .code yX2_silenced cX2_silenced 1 (some .int) :: ([.fieldLink RX2 19 "FableIndex" "land" "LFableIndex$Land;", .fieldLink RX2 148 "FableIndex$Land" "hushed" "I"] ++ wsX20 ++ wsX10)
def wsX2_fablesWithMoral : List Cond := .code yX2_fablesWithMoral cX2_fablesWithMoral 2 (some .int) :: ([.fieldLink RX2 10 "FableIndex" "book" "LFableIndex$Book;", .methodLink RX2 30 yX2_needMoral, .static yX2_needMoral, .initialized RX2, .code yX2_needMoral cX2_needMoral 1 none, .classLink RX2 238 "java/lang/IndexOutOfBoundsException", .initialized "java/lang/IndexOutOfBoundsException", .methodLink RX2 151 yX0_withMoral, .instanceMethod yX0_withMoral, .selects RX0 yX0_withMoral yX0_withMoral, .initialized RX0, .code yX0_withMoral cX0_withMoral 4 (some .int), .fieldLink RX0 9 "FableIndex$Book" "count" "I", .fieldLink RX0 15 "FableIndex$Book" "moral" "[I", .methodLink RX2 70 yX2_size, .static yX2_size, .code yX2_size cX2_size 1 (some .int), .methodLink RX2 253 yJ6_bitCount_0f7a4, .static yJ6_bitCount_0f7a4, .initialized RJ6, .code yJ6_bitCount_0f7a4 cJ6_bitCount_0f7a4 1 (some .int), .constant RJ6 265 (1431655765), .constant RJ6 266 (858993459), .constant RJ6 267 (252645135)] ++ wsX20 ++ wsX00 ++ (vx_atS RX2 242 "java/lang/IndexOutOfBoundsException" ["java/lang/RuntimeException", "java/lang/Exception"]).filter goodWord)
def wsX2_fablesWithBeast_r1 : List Cond := [Cond.fieldLink RX2 10 "FableIndex" "book" "LFableIndex$Book;", Cond.methodLink RX2 34 yX2_needBeast, Cond.static yX2_needBeast, Cond.initialized RX2, Cond.code yX2_needBeast cX2_needBeast 1 none, Cond.classLink RX2 238 "java/lang/IndexOutOfBoundsException", Cond.initialized "java/lang/IndexOutOfBoundsException", Cond.methodLink RX2 154 yX0_withBeast, Cond.instanceMethod yX0_withBeast, Cond.selects RX0 yX0_withBeast yX0_withBeast, Cond.initialized RX0, Cond.code yX0_withBeast cX0_withBeast 4 (some .int), Cond.fieldLink RX0 9 "FableIndex$Book" "count" "I", Cond.fieldLink RX0 19 "FableIndex$Book" "beasts" "[I", Cond.static yX2_has, Cond.code yX2_has cX2_has 2 (some .boolean), Cond.methodLink RX2 70 yX2_size, Cond.static yX2_size, Cond.code yX2_size cX2_size 1 (some .int), Cond.methodLink RX2 253 yJ6_bitCount_0f7a4, Cond.static yJ6_bitCount_0f7a4, Cond.initialized RJ6, Cond.code yJ6_bitCount_0f7a4 cJ6_bitCount_0f7a4 1 (some .int), Cond.constant RJ6 265 (1431655765)]
def wsX2_fablesWithBeast_r2 : List Cond := [Cond.constant RJ6 266 (858993459), Cond.constant RJ6 267 (252645135)]
def wsX2_fablesWithBeast : List Cond := .code yX2_fablesWithBeast cX2_fablesWithBeast 2 (some .int) :: ((wsX2_fablesWithBeast_r1 ++ wsX2_fablesWithBeast_r2) ++ wsX20 ++ wsX00 ++ (vx_atS RX2 242 "java/lang/IndexOutOfBoundsException" ["java/lang/RuntimeException", "java/lang/Exception"]).filter goodWord)
def wsX2_favouriteMoral_r1 : List Cond := [Cond.fieldLink RX2 19 "FableIndex" "land" "LFableIndex$Land;", Cond.fieldLink RX2 10 "FableIndex" "book" "LFableIndex$Book;", Cond.methodLink RX2 151 yX0_withMoral, Cond.instanceMethod yX0_withMoral, Cond.selects RX0 yX0_withMoral yX0_withMoral, Cond.initialized RX0, Cond.code yX0_withMoral cX0_withMoral 4 (some .int), Cond.fieldLink RX0 9 "FableIndex$Book" "count" "I", Cond.fieldLink RX0 15 "FableIndex$Book" "moral" "[I", Cond.methodLink RX2 114 yX1_count, Cond.instanceMethod yX1_count, Cond.selects RX1 yX1_count yX1_count, Cond.initialized RX1, Cond.code yX1_count cX1_count 4 (some .int), Cond.fieldLink RX1 21 "FableIndex$Land" "told" "[I", Cond.static yX2_size, Cond.initialized RX2, Cond.code yX2_size cX2_size 1 (some .int), Cond.methodLink RX2 253 yJ6_bitCount_0f7a4, Cond.static yJ6_bitCount_0f7a4, Cond.initialized RJ6, Cond.code yJ6_bitCount_0f7a4 cJ6_bitCount_0f7a4 1 (some .int), Cond.constant RJ6 265 (1431655765), Cond.constant RJ6 266 (858993459)]
def wsX2_favouriteMoral_r2 : List Cond := [Cond.constant RJ6 267 (252645135)]
def wsX2_favouriteMoral : List Cond := .code yX2_favouriteMoral cX2_favouriteMoral 5 (some .int) :: ((wsX2_favouriteMoral_r1 ++ wsX2_favouriteMoral_r2) ++ wsX20 ++ wsX00 ++ wsX10)
def wsX2_favouriteBeast_r1 : List Cond := [Cond.fieldLink RX2 19 "FableIndex" "land" "LFableIndex$Land;", Cond.fieldLink RX2 10 "FableIndex" "book" "LFableIndex$Book;", Cond.methodLink RX2 154 yX0_withBeast, Cond.instanceMethod yX0_withBeast, Cond.selects RX0 yX0_withBeast yX0_withBeast, Cond.initialized RX0, Cond.code yX0_withBeast cX0_withBeast 4 (some .int), Cond.fieldLink RX0 9 "FableIndex$Book" "count" "I", Cond.fieldLink RX0 19 "FableIndex$Book" "beasts" "[I", Cond.static yX2_has, Cond.initialized RX2, Cond.code yX2_has cX2_has 2 (some .boolean), Cond.methodLink RX2 114 yX1_count, Cond.instanceMethod yX1_count, Cond.selects RX1 yX1_count yX1_count, Cond.initialized RX1, Cond.code yX1_count cX1_count 4 (some .int), Cond.fieldLink RX1 21 "FableIndex$Land" "told" "[I", Cond.static yX2_size, Cond.code yX2_size cX2_size 1 (some .int), Cond.methodLink RX2 253 yJ6_bitCount_0f7a4, Cond.static yJ6_bitCount_0f7a4, Cond.initialized RJ6, Cond.code yJ6_bitCount_0f7a4 cJ6_bitCount_0f7a4 1 (some .int)]
def wsX2_favouriteBeast_r2 : List Cond := [Cond.constant RJ6 265 (1431655765), Cond.constant RJ6 266 (858993459), Cond.constant RJ6 267 (252645135)]
def wsX2_favouriteBeast : List Cond := .code yX2_favouriteBeast cX2_favouriteBeast 5 (some .int) :: ((wsX2_favouriteBeast_r1 ++ wsX2_favouriteBeast_r2) ++ wsX20 ++ wsX00 ++ wsX10)
def wsX2_seasonsUntil_r1 : List Cond := [Cond.fieldLink RX2 23 "FableIndex" "trial" "LFableIndex$Land;", Cond.fieldLink RX2 19 "FableIndex" "land" "LFableIndex$Land;", Cond.fieldLink RX2 103 "FableIndex$Land" "told" "[I", Cond.fieldLink RX2 10 "FableIndex" "book" "LFableIndex$Book;", Cond.methodLink RX2 47 yX2_needFable, Cond.instanceMethod yX2_needFable, Cond.selects RX2 yX2_needFable yX2_needFable, Cond.initialized RX2, Cond.code yX2_needFable cX2_needFable 2 none, Cond.classLink RX2 238 "java/lang/IndexOutOfBoundsException", Cond.initialized "java/lang/IndexOutOfBoundsException", Cond.fieldLink RX2 146 "FableIndex$Book" "count" "I", Cond.methodLink RX2 37 yX2_needValley, Cond.static yX2_needValley, Cond.code yX2_needValley cX2_needValley 1 none, Cond.methodLink RX2 157 yX1_become, Cond.instanceMethod yX1_become, Cond.selects RX1 yX1_become yX1_become, Cond.initialized RX1, Cond.code yX1_become cX1_become 3 none, Cond.fieldLink RX1 9 "FableIndex$Land" "ways" "[I", Cond.fieldLink RX1 15 "FableIndex$Land" "bannedMorals" "[I", Cond.fieldLink RX1 18 "FableIndex$Land" "bannedBeasts" "[I", Cond.fieldLink RX1 21 "FableIndex$Land" "told" "[I"]
def wsX2_seasonsUntil_r2 : List Cond := [Cond.fieldLink RX1 30 "FableIndex$Land" "hushed" "I", Cond.methodLink RX2 54 yX2_has, Cond.static yX2_has, Cond.code yX2_has cX2_has 2 (some .boolean), Cond.methodLink RX2 122 yX1_live, Cond.instanceMethod yX1_live, Cond.selects RX1 yX1_live yX1_live, Cond.code yX1_live cX1_live 5 none, Cond.fieldLink RX1 24 "FableIndex$Land" "allowed" "[I", Cond.methodLink RX1 61 yX1_welcome, Cond.instanceMethod yX1_welcome, Cond.selects RX1 yX1_welcome yX1_welcome, Cond.code yX1_welcome cX1_welcome 5 (some .int), Cond.fieldLink RX1 50 "FableIndex$Book" "count" "I", Cond.methodLink RX1 53 yX1_bans, Cond.instanceMethod yX1_bans, Cond.selects RX1 yX1_bans yX1_bans, Cond.code yX1_bans cX1_bans 4 (some .boolean), Cond.fieldLink RX1 38 "FableIndex$Book" "moral" "[I", Cond.fieldLink RX1 47 "FableIndex$Book" "beasts" "[I", Cond.methodLink RX1 65 yX1_hush, Cond.instanceMethod yX1_hush, Cond.selects RX1 yX1_hush yX1_hush, Cond.code yX1_hush cX1_hush 2 none]
def wsX2_seasonsUntil_r3 : List Cond := [Cond.fieldLink RX1 27 "FableIndex$Land" "kept" "[I", Cond.static yX2_size, Cond.code yX2_size cX2_size 1 (some .int), Cond.methodLink RX2 253 yJ6_bitCount_0f7a4, Cond.static yJ6_bitCount_0f7a4, Cond.initialized RJ6, Cond.code yJ6_bitCount_0f7a4 cJ6_bitCount_0f7a4 1 (some .int), Cond.constant RJ6 265 (1431655765), Cond.constant RJ6 266 (858993459), Cond.constant RJ6 267 (252645135), Cond.methodLink RX1 68 yX1_spread, Cond.instanceMethod yX1_spread, Cond.selects RX1 yX1_spread yX1_spread, Cond.code yX1_spread cX1_spread 5 (some .boolean), Cond.methodLink RX1 72 yX1_arriving, Cond.instanceMethod yX1_arriving, Cond.selects RX1 yX1_arriving yX1_arriving, Cond.code yX1_arriving cX1_arriving 4 (some .int), Cond.methodLink RX1 75 yX1_admitted, Cond.instanceMethod yX1_admitted, Cond.selects RX1 yX1_admitted yX1_admitted, Cond.code yX1_admitted cX1_admitted 7 (some .int), Cond.fieldLink RX1 79 "FableIndex$Book" "variants" "[I", Cond.static yX2_smallestAlone]
def wsX2_seasonsUntil_r4 : List Cond := [Cond.code yX2_smallestAlone cX2_smallestAlone 1 (some .int)]
def wsX2_seasonsUntil : List Cond := .code yX2_seasonsUntil cX2_seasonsUntil 4 (some .int) :: ((wsX2_seasonsUntil_r1 ++ (wsX2_seasonsUntil_r2 ++ (wsX2_seasonsUntil_r3 ++ wsX2_seasonsUntil_r4))) ++ wsX20 ++ wsX10 ++ wsX00 ++ (vx_atS RX2 242 "java/lang/IndexOutOfBoundsException" ["java/lang/RuntimeException", "java/lang/Exception"]).filter goodWord)
def wsX2_tellingsOfTrial_r1 : List Cond := [Cond.fieldLink RX2 23 "FableIndex" "trial" "LFableIndex$Land;", Cond.fieldLink RX2 10 "FableIndex" "book" "LFableIndex$Book;", Cond.methodLink RX2 122 yX1_live, Cond.instanceMethod yX1_live, Cond.selects RX1 yX1_live yX1_live, Cond.initialized RX1, Cond.code yX1_live cX1_live 5 none, Cond.fieldLink RX1 24 "FableIndex$Land" "allowed" "[I", Cond.methodLink RX1 61 yX1_welcome, Cond.instanceMethod yX1_welcome, Cond.selects RX1 yX1_welcome yX1_welcome, Cond.code yX1_welcome cX1_welcome 5 (some .int), Cond.fieldLink RX1 50 "FableIndex$Book" "count" "I", Cond.methodLink RX1 53 yX1_bans, Cond.instanceMethod yX1_bans, Cond.selects RX1 yX1_bans yX1_bans, Cond.code yX1_bans cX1_bans 4 (some .boolean), Cond.fieldLink RX1 15 "FableIndex$Land" "bannedMorals" "[I", Cond.fieldLink RX1 38 "FableIndex$Book" "moral" "[I", Cond.fieldLink RX1 18 "FableIndex$Land" "bannedBeasts" "[I", Cond.fieldLink RX1 47 "FableIndex$Book" "beasts" "[I", Cond.static yX2_has, Cond.initialized RX2, Cond.code yX2_has cX2_has 2 (some .boolean)]
def wsX2_tellingsOfTrial_r2 : List Cond := [Cond.methodLink RX1 65 yX1_hush, Cond.instanceMethod yX1_hush, Cond.selects RX1 yX1_hush yX1_hush, Cond.code yX1_hush cX1_hush 2 none, Cond.fieldLink RX1 27 "FableIndex$Land" "kept" "[I", Cond.fieldLink RX1 21 "FableIndex$Land" "told" "[I", Cond.fieldLink RX1 30 "FableIndex$Land" "hushed" "I", Cond.static yX2_size, Cond.code yX2_size cX2_size 1 (some .int), Cond.methodLink RX2 253 yJ6_bitCount_0f7a4, Cond.static yJ6_bitCount_0f7a4, Cond.initialized RJ6, Cond.code yJ6_bitCount_0f7a4 cJ6_bitCount_0f7a4 1 (some .int), Cond.constant RJ6 265 (1431655765), Cond.constant RJ6 266 (858993459), Cond.constant RJ6 267 (252645135), Cond.methodLink RX1 68 yX1_spread, Cond.instanceMethod yX1_spread, Cond.selects RX1 yX1_spread yX1_spread, Cond.code yX1_spread cX1_spread 5 (some .boolean), Cond.methodLink RX1 72 yX1_arriving, Cond.instanceMethod yX1_arriving, Cond.selects RX1 yX1_arriving yX1_arriving, Cond.code yX1_arriving cX1_arriving 4 (some .int)]
def wsX2_tellingsOfTrial_r3 : List Cond := [Cond.fieldLink RX1 9 "FableIndex$Land" "ways" "[I", Cond.methodLink RX1 75 yX1_admitted, Cond.instanceMethod yX1_admitted, Cond.selects RX1 yX1_admitted yX1_admitted, Cond.code yX1_admitted cX1_admitted 7 (some .int), Cond.fieldLink RX1 79 "FableIndex$Book" "variants" "[I", Cond.static yX2_smallestAlone, Cond.code yX2_smallestAlone cX2_smallestAlone 1 (some .int), Cond.methodLink RX2 126 yX0_all, Cond.instanceMethod yX0_all, Cond.selects RX0 yX0_all yX0_all, Cond.initialized RX0, Cond.code yX0_all cX0_all 1 (some .int), Cond.fieldLink RX0 9 "FableIndex$Book" "count" "I", Cond.methodLink RX2 114 yX1_count, Cond.instanceMethod yX1_count, Cond.selects RX1 yX1_count yX1_count, Cond.code yX1_count cX1_count 4 (some .int)]
def wsX2_tellingsOfTrial : List Cond := .code yX2_tellingsOfTrial cX2_tellingsOfTrial 2 (some .int) :: ((wsX2_tellingsOfTrial_r1 ++ (wsX2_tellingsOfTrial_r2 ++ wsX2_tellingsOfTrial_r3)) ++ wsX20 ++ wsX10 ++ wsX00)
def wsX2_tellingsAfter_r1 : List Cond := [Cond.fieldLink RX2 23 "FableIndex" "trial" "LFableIndex$Land;", Cond.fieldLink RX2 19 "FableIndex" "land" "LFableIndex$Land;", Cond.methodLink RX2 119 yX2_needSeasons, Cond.static yX2_needSeasons, Cond.initialized RX2, Cond.code yX2_needSeasons cX2_needSeasons 2 none, Cond.classLink RX2 85 "java/lang/IllegalArgumentException", Cond.initialized "java/lang/IllegalArgumentException", Cond.methodLink RX2 157 yX1_become, Cond.instanceMethod yX1_become, Cond.selects RX1 yX1_become yX1_become, Cond.initialized RX1, Cond.code yX1_become cX1_become 3 none, Cond.fieldLink RX1 9 "FableIndex$Land" "ways" "[I", Cond.fieldLink RX1 15 "FableIndex$Land" "bannedMorals" "[I", Cond.fieldLink RX1 18 "FableIndex$Land" "bannedBeasts" "[I", Cond.fieldLink RX1 21 "FableIndex$Land" "told" "[I", Cond.fieldLink RX1 30 "FableIndex$Land" "hushed" "I", Cond.methodLink RX2 161 yX2_tellingsOfTrial, Cond.instanceMethod yX2_tellingsOfTrial, Cond.selects RX2 yX2_tellingsOfTrial yX2_tellingsOfTrial, Cond.code yX2_tellingsOfTrial cX2_tellingsOfTrial 2 (some .int), Cond.fieldLink RX2 10 "FableIndex" "book" "LFableIndex$Book;", Cond.methodLink RX2 122 yX1_live]
def wsX2_tellingsAfter_r2 : List Cond := [Cond.instanceMethod yX1_live, Cond.selects RX1 yX1_live yX1_live, Cond.code yX1_live cX1_live 5 none, Cond.fieldLink RX1 24 "FableIndex$Land" "allowed" "[I", Cond.methodLink RX1 61 yX1_welcome, Cond.instanceMethod yX1_welcome, Cond.selects RX1 yX1_welcome yX1_welcome, Cond.code yX1_welcome cX1_welcome 5 (some .int), Cond.fieldLink RX1 50 "FableIndex$Book" "count" "I", Cond.methodLink RX1 53 yX1_bans, Cond.instanceMethod yX1_bans, Cond.selects RX1 yX1_bans yX1_bans, Cond.code yX1_bans cX1_bans 4 (some .boolean), Cond.fieldLink RX1 38 "FableIndex$Book" "moral" "[I", Cond.fieldLink RX1 47 "FableIndex$Book" "beasts" "[I", Cond.static yX2_has, Cond.code yX2_has cX2_has 2 (some .boolean), Cond.methodLink RX1 65 yX1_hush, Cond.instanceMethod yX1_hush, Cond.selects RX1 yX1_hush yX1_hush, Cond.code yX1_hush cX1_hush 2 none, Cond.fieldLink RX1 27 "FableIndex$Land" "kept" "[I", Cond.static yX2_size, Cond.code yX2_size cX2_size 1 (some .int)]
def wsX2_tellingsAfter_r3 : List Cond := [Cond.methodLink RX2 253 yJ6_bitCount_0f7a4, Cond.static yJ6_bitCount_0f7a4, Cond.initialized RJ6, Cond.code yJ6_bitCount_0f7a4 cJ6_bitCount_0f7a4 1 (some .int), Cond.constant RJ6 265 (1431655765), Cond.constant RJ6 266 (858993459), Cond.constant RJ6 267 (252645135), Cond.methodLink RX1 68 yX1_spread, Cond.instanceMethod yX1_spread, Cond.selects RX1 yX1_spread yX1_spread, Cond.code yX1_spread cX1_spread 5 (some .boolean), Cond.methodLink RX1 72 yX1_arriving, Cond.instanceMethod yX1_arriving, Cond.selects RX1 yX1_arriving yX1_arriving, Cond.code yX1_arriving cX1_arriving 4 (some .int), Cond.methodLink RX1 75 yX1_admitted, Cond.instanceMethod yX1_admitted, Cond.selects RX1 yX1_admitted yX1_admitted, Cond.code yX1_admitted cX1_admitted 7 (some .int), Cond.fieldLink RX1 79 "FableIndex$Book" "variants" "[I", Cond.static yX2_smallestAlone, Cond.code yX2_smallestAlone cX2_smallestAlone 1 (some .int), Cond.methodLink RX2 126 yX0_all, Cond.instanceMethod yX0_all]
def wsX2_tellingsAfter_r4 : List Cond := [Cond.selects RX0 yX0_all yX0_all, Cond.initialized RX0, Cond.code yX0_all cX0_all 1 (some .int), Cond.fieldLink RX0 9 "FableIndex$Book" "count" "I", Cond.methodLink RX2 114 yX1_count, Cond.instanceMethod yX1_count, Cond.selects RX1 yX1_count yX1_count, Cond.code yX1_count cX1_count 4 (some .int)]
def wsX2_tellingsAfter : List Cond := .code yX2_tellingsAfter cX2_tellingsAfter 2 (some .int) :: ((wsX2_tellingsAfter_r1 ++ (wsX2_tellingsAfter_r2 ++ (wsX2_tellingsAfter_r3 ++ wsX2_tellingsAfter_r4))) ++ wsX20 ++ wsX10 ++ wsX00 ++ (vx_atS RX2 89 "java/lang/IllegalArgumentException" ["java/lang/RuntimeException", "java/lang/Exception"]).filter goodWord)
def wsX2_tellingsWithPass_r1 : List Cond := [Cond.fieldLink RX2 23 "FableIndex" "trial" "LFableIndex$Land;", Cond.fieldLink RX2 19 "FableIndex" "land" "LFableIndex$Land;", Cond.methodLink RX2 157 yX1_become, Cond.instanceMethod yX1_become, Cond.selects RX1 yX1_become yX1_become, Cond.initialized RX1, Cond.code yX1_become cX1_become 3 none, Cond.fieldLink RX1 9 "FableIndex$Land" "ways" "[I", Cond.fieldLink RX1 15 "FableIndex$Land" "bannedMorals" "[I", Cond.fieldLink RX1 18 "FableIndex$Land" "bannedBeasts" "[I", Cond.fieldLink RX1 21 "FableIndex$Land" "told" "[I", Cond.fieldLink RX1 30 "FableIndex$Land" "hushed" "I", Cond.methodLink RX2 90 yX1_turnWay, Cond.instanceMethod yX1_turnWay, Cond.selects RX1 yX1_turnWay yX1_turnWay, Cond.code yX1_turnWay cX1_turnWay 3 none, Cond.static yX2_turned, Cond.initialized RX2, Cond.code yX2_turned cX2_turned 2 (some .int), Cond.methodLink RX2 161 yX2_tellingsOfTrial, Cond.instanceMethod yX2_tellingsOfTrial, Cond.selects RX2 yX2_tellingsOfTrial yX2_tellingsOfTrial, Cond.code yX2_tellingsOfTrial cX2_tellingsOfTrial 2 (some .int), Cond.fieldLink RX2 10 "FableIndex" "book" "LFableIndex$Book;"]
def wsX2_tellingsWithPass_r2 : List Cond := [Cond.methodLink RX2 122 yX1_live, Cond.instanceMethod yX1_live, Cond.selects RX1 yX1_live yX1_live, Cond.code yX1_live cX1_live 5 none, Cond.fieldLink RX1 24 "FableIndex$Land" "allowed" "[I", Cond.methodLink RX1 61 yX1_welcome, Cond.instanceMethod yX1_welcome, Cond.selects RX1 yX1_welcome yX1_welcome, Cond.code yX1_welcome cX1_welcome 5 (some .int), Cond.fieldLink RX1 50 "FableIndex$Book" "count" "I", Cond.methodLink RX1 53 yX1_bans, Cond.instanceMethod yX1_bans, Cond.selects RX1 yX1_bans yX1_bans, Cond.code yX1_bans cX1_bans 4 (some .boolean), Cond.fieldLink RX1 38 "FableIndex$Book" "moral" "[I", Cond.fieldLink RX1 47 "FableIndex$Book" "beasts" "[I", Cond.static yX2_has, Cond.code yX2_has cX2_has 2 (some .boolean), Cond.methodLink RX1 65 yX1_hush, Cond.instanceMethod yX1_hush, Cond.selects RX1 yX1_hush yX1_hush, Cond.code yX1_hush cX1_hush 2 none, Cond.fieldLink RX1 27 "FableIndex$Land" "kept" "[I", Cond.static yX2_size]
def wsX2_tellingsWithPass_r3 : List Cond := [Cond.code yX2_size cX2_size 1 (some .int), Cond.methodLink RX2 253 yJ6_bitCount_0f7a4, Cond.static yJ6_bitCount_0f7a4, Cond.initialized RJ6, Cond.code yJ6_bitCount_0f7a4 cJ6_bitCount_0f7a4 1 (some .int), Cond.constant RJ6 265 (1431655765), Cond.constant RJ6 266 (858993459), Cond.constant RJ6 267 (252645135), Cond.methodLink RX1 68 yX1_spread, Cond.instanceMethod yX1_spread, Cond.selects RX1 yX1_spread yX1_spread, Cond.code yX1_spread cX1_spread 5 (some .boolean), Cond.methodLink RX1 72 yX1_arriving, Cond.instanceMethod yX1_arriving, Cond.selects RX1 yX1_arriving yX1_arriving, Cond.code yX1_arriving cX1_arriving 4 (some .int), Cond.methodLink RX1 75 yX1_admitted, Cond.instanceMethod yX1_admitted, Cond.selects RX1 yX1_admitted yX1_admitted, Cond.code yX1_admitted cX1_admitted 7 (some .int), Cond.fieldLink RX1 79 "FableIndex$Book" "variants" "[I", Cond.static yX2_smallestAlone, Cond.code yX2_smallestAlone cX2_smallestAlone 1 (some .int), Cond.methodLink RX2 126 yX0_all]
def wsX2_tellingsWithPass_r4 : List Cond := [Cond.instanceMethod yX0_all, Cond.selects RX0 yX0_all yX0_all, Cond.initialized RX0, Cond.code yX0_all cX0_all 1 (some .int), Cond.fieldLink RX0 9 "FableIndex$Book" "count" "I", Cond.methodLink RX2 114 yX1_count, Cond.instanceMethod yX1_count, Cond.selects RX1 yX1_count yX1_count, Cond.code yX1_count cX1_count 4 (some .int)]
def wsX2_tellingsWithPass : List Cond := .code yX2_tellingsWithPass cX2_tellingsWithPass 4 (some .int) :: ((wsX2_tellingsWithPass_r1 ++ (wsX2_tellingsWithPass_r2 ++ (wsX2_tellingsWithPass_r3 ++ wsX2_tellingsWithPass_r4))) ++ wsX20 ++ wsX10 ++ wsX00)
def wsX2_bestPass_r1 : List Cond := [Cond.fieldLink RX2 23 "FableIndex" "trial" "LFableIndex$Land;", Cond.fieldLink RX2 19 "FableIndex" "land" "LFableIndex$Land;", Cond.fieldLink RX2 94 "FableIndex$Land" "ways" "[I", Cond.methodLink RX2 119 yX2_needSeasons, Cond.static yX2_needSeasons, Cond.initialized RX2, Cond.code yX2_needSeasons cX2_needSeasons 2 none, Cond.classLink RX2 85 "java/lang/IllegalArgumentException", Cond.initialized "java/lang/IllegalArgumentException", Cond.methodLink RX2 157 yX1_become, Cond.instanceMethod yX1_become, Cond.selects RX1 yX1_become yX1_become, Cond.initialized RX1, Cond.code yX1_become cX1_become 3 none, Cond.fieldLink RX1 9 "FableIndex$Land" "ways" "[I", Cond.fieldLink RX1 15 "FableIndex$Land" "bannedMorals" "[I", Cond.fieldLink RX1 18 "FableIndex$Land" "bannedBeasts" "[I", Cond.fieldLink RX1 21 "FableIndex$Land" "told" "[I", Cond.fieldLink RX1 30 "FableIndex$Land" "hushed" "I", Cond.methodLink RX2 161 yX2_tellingsOfTrial, Cond.instanceMethod yX2_tellingsOfTrial, Cond.selects RX2 yX2_tellingsOfTrial yX2_tellingsOfTrial, Cond.code yX2_tellingsOfTrial cX2_tellingsOfTrial 2 (some .int), Cond.fieldLink RX2 10 "FableIndex" "book" "LFableIndex$Book;"]
def wsX2_bestPass_r2 : List Cond := [Cond.methodLink RX2 122 yX1_live, Cond.instanceMethod yX1_live, Cond.selects RX1 yX1_live yX1_live, Cond.code yX1_live cX1_live 5 none, Cond.fieldLink RX1 24 "FableIndex$Land" "allowed" "[I", Cond.methodLink RX1 61 yX1_welcome, Cond.instanceMethod yX1_welcome, Cond.selects RX1 yX1_welcome yX1_welcome, Cond.code yX1_welcome cX1_welcome 5 (some .int), Cond.fieldLink RX1 50 "FableIndex$Book" "count" "I", Cond.methodLink RX1 53 yX1_bans, Cond.instanceMethod yX1_bans, Cond.selects RX1 yX1_bans yX1_bans, Cond.code yX1_bans cX1_bans 4 (some .boolean), Cond.fieldLink RX1 38 "FableIndex$Book" "moral" "[I", Cond.fieldLink RX1 47 "FableIndex$Book" "beasts" "[I", Cond.static yX2_has, Cond.code yX2_has cX2_has 2 (some .boolean), Cond.methodLink RX1 65 yX1_hush, Cond.instanceMethod yX1_hush, Cond.selects RX1 yX1_hush yX1_hush, Cond.code yX1_hush cX1_hush 2 none, Cond.fieldLink RX1 27 "FableIndex$Land" "kept" "[I", Cond.static yX2_size]
def wsX2_bestPass_r3 : List Cond := [Cond.code yX2_size cX2_size 1 (some .int), Cond.methodLink RX2 253 yJ6_bitCount_0f7a4, Cond.static yJ6_bitCount_0f7a4, Cond.initialized RJ6, Cond.code yJ6_bitCount_0f7a4 cJ6_bitCount_0f7a4 1 (some .int), Cond.constant RJ6 265 (1431655765), Cond.constant RJ6 266 (858993459), Cond.constant RJ6 267 (252645135), Cond.methodLink RX1 68 yX1_spread, Cond.instanceMethod yX1_spread, Cond.selects RX1 yX1_spread yX1_spread, Cond.code yX1_spread cX1_spread 5 (some .boolean), Cond.methodLink RX1 72 yX1_arriving, Cond.instanceMethod yX1_arriving, Cond.selects RX1 yX1_arriving yX1_arriving, Cond.code yX1_arriving cX1_arriving 4 (some .int), Cond.methodLink RX1 75 yX1_admitted, Cond.instanceMethod yX1_admitted, Cond.selects RX1 yX1_admitted yX1_admitted, Cond.code yX1_admitted cX1_admitted 7 (some .int), Cond.fieldLink RX1 79 "FableIndex$Book" "variants" "[I", Cond.static yX2_smallestAlone, Cond.code yX2_smallestAlone cX2_smallestAlone 1 (some .int), Cond.methodLink RX2 126 yX0_all]
def wsX2_bestPass_r4 : List Cond := [Cond.instanceMethod yX0_all, Cond.selects RX0 yX0_all yX0_all, Cond.initialized RX0, Cond.code yX0_all cX0_all 1 (some .int), Cond.fieldLink RX0 9 "FableIndex$Book" "count" "I", Cond.methodLink RX2 114 yX1_count, Cond.instanceMethod yX1_count, Cond.selects RX1 yX1_count yX1_count, Cond.code yX1_count cX1_count 4 (some .int), Cond.methodLink RX2 54 yX2_has, Cond.methodLink RX2 164 yX2_tellingsWithPass, Cond.instanceMethod yX2_tellingsWithPass, Cond.selects RX2 yX2_tellingsWithPass yX2_tellingsWithPass, Cond.code yX2_tellingsWithPass cX2_tellingsWithPass 4 (some .int), Cond.methodLink RX2 90 yX1_turnWay, Cond.instanceMethod yX1_turnWay, Cond.selects RX1 yX1_turnWay yX1_turnWay, Cond.code yX1_turnWay cX1_turnWay 3 none, Cond.static yX2_turned, Cond.code yX2_turned cX2_turned 2 (some .int)]
def wsX2_bestPass : List Cond := .code yX2_bestPass cX2_bestPass 7 (some .int) :: ((wsX2_bestPass_r1 ++ (wsX2_bestPass_r2 ++ (wsX2_bestPass_r3 ++ wsX2_bestPass_r4))) ++ wsX20 ++ wsX10 ++ wsX00 ++ (vx_atS RX2 89 "java/lang/IllegalArgumentException" ["java/lang/RuntimeException", "java/lang/Exception"]).filter goodWord)
def wsX2_meanBeasts : List Cond := .code yX2_meanBeasts cX2_meanBeasts 3 (some .double) :: ([.fieldLink RX2 10 "FableIndex" "book" "LFableIndex$Book;", .fieldLink RX2 146 "FableIndex$Book" "count" "I", .fieldLink RX2 50 "FableIndex$Book" "beasts" "[I", .methodLink RX2 70 yX2_size, .static yX2_size, .initialized RX2, .code yX2_size cX2_size 1 (some .int), .methodLink RX2 253 yJ6_bitCount_0f7a4, .static yJ6_bitCount_0f7a4, .initialized RJ6, .code yJ6_bitCount_0f7a4 cJ6_bitCount_0f7a4 1 (some .int), .constant RJ6 265 (1431655765), .constant RJ6 266 (858993459), .constant RJ6 267 (252645135)] ++ wsX20 ++ wsX00)
def wsX2_mixed : List Cond := .code yX2_mixed cX2_mixed 3 (some .long) :: ([.constantLong RX2 236 (31)])
def wsX2_mixedWithFable_r1 : List Cond := [Cond.methodLink RX2 197 yX2_moralOf, Cond.instanceMethod yX2_moralOf, Cond.selects RX2 yX2_moralOf yX2_moralOf, Cond.initialized RX2, Cond.code yX2_moralOf cX2_moralOf 2 (some .int), Cond.fieldLink RX2 10 "FableIndex" "book" "LFableIndex$Book;", Cond.fieldLink RX2 78 "FableIndex$Book" "moral" "[I", Cond.methodLink RX2 47 yX2_needFable, Cond.instanceMethod yX2_needFable, Cond.selects RX2 yX2_needFable yX2_needFable, Cond.code yX2_needFable cX2_needFable 2 none, Cond.classLink RX2 238 "java/lang/IndexOutOfBoundsException", Cond.initialized "java/lang/IndexOutOfBoundsException", Cond.fieldLink RX2 146 "FableIndex$Book" "count" "I", Cond.methodLink RX2 173 yX2_mixed, Cond.static yX2_mixed, Cond.code yX2_mixed cX2_mixed 3 (some .long), Cond.constantLong RX2 236 (31), Cond.methodLink RX2 200 yX2_beastsOf, Cond.instanceMethod yX2_beastsOf, Cond.selects RX2 yX2_beastsOf yX2_beastsOf, Cond.code yX2_beastsOf cX2_beastsOf 2 (some .int), Cond.fieldLink RX2 50 "FableIndex$Book" "beasts" "[I", Cond.methodLink RX2 70 yX2_size]
def wsX2_mixedWithFable_r2 : List Cond := [Cond.static yX2_size, Cond.code yX2_size cX2_size 1 (some .int), Cond.methodLink RX2 253 yJ6_bitCount_0f7a4, Cond.static yJ6_bitCount_0f7a4, Cond.initialized RJ6, Cond.code yJ6_bitCount_0f7a4 cJ6_bitCount_0f7a4 1 (some .int), Cond.constant RJ6 265 (1431655765), Cond.constant RJ6 266 (858993459), Cond.constant RJ6 267 (252645135), Cond.methodLink RX2 203 yX2_homeOf, Cond.instanceMethod yX2_homeOf, Cond.selects RX2 yX2_homeOf yX2_homeOf, Cond.code yX2_homeOf cX2_homeOf 2 (some .int), Cond.fieldLink RX2 130 "FableIndex$Book" "home" "[I", Cond.methodLink RX2 206 yX2_parentOf, Cond.instanceMethod yX2_parentOf, Cond.selects RX2 yX2_parentOf yX2_parentOf, Cond.code yX2_parentOf cX2_parentOf 2 (some .int), Cond.fieldLink RX2 133 "FableIndex$Book" "parent" "[I", Cond.methodLink RX2 209 yX2_variantsOf, Cond.instanceMethod yX2_variantsOf, Cond.selects RX2 yX2_variantsOf yX2_variantsOf, Cond.code yX2_variantsOf cX2_variantsOf 2 (some .int), Cond.fieldLink RX2 65 "FableIndex$Book" "variants" "[I"]
def wsX2_mixedWithFable_r3 : List Cond := [Cond.methodLink RX2 212 yX2_valleysOf, Cond.instanceMethod yX2_valleysOf, Cond.selects RX2 yX2_valleysOf yX2_valleysOf, Cond.code yX2_valleysOf cX2_valleysOf 2 (some .int), Cond.fieldLink RX2 19 "FableIndex" "land" "LFableIndex$Land;", Cond.methodLink RX2 114 yX1_count, Cond.instanceMethod yX1_count, Cond.selects RX1 yX1_count yX1_count, Cond.initialized RX1, Cond.code yX1_count cX1_count 4 (some .int), Cond.fieldLink RX1 21 "FableIndex$Land" "told" "[I", Cond.methodLink RX2 215 yX2_hasBeast, Cond.instanceMethod yX2_hasBeast, Cond.selects RX2 yX2_hasBeast yX2_hasBeast, Cond.code yX2_hasBeast cX2_hasBeast 3 (some .boolean), Cond.methodLink RX2 34 yX2_needBeast, Cond.static yX2_needBeast, Cond.code yX2_needBeast cX2_needBeast 1 none, Cond.methodLink RX2 54 yX2_has, Cond.static yX2_has, Cond.code yX2_has cX2_has 2 (some .boolean), Cond.methodLink RX2 218 yX2_isTold, Cond.instanceMethod yX2_isTold, Cond.selects RX2 yX2_isTold yX2_isTold]
def wsX2_mixedWithFable_r4 : List Cond := [Cond.code yX2_isTold cX2_isTold 3 (some .boolean), Cond.fieldLink RX2 103 "FableIndex$Land" "told" "[I", Cond.methodLink RX2 37 yX2_needValley, Cond.static yX2_needValley, Cond.code yX2_needValley cX2_needValley 1 none, Cond.methodLink RX2 221 yX2_isBanned, Cond.instanceMethod yX2_isBanned, Cond.selects RX2 yX2_isBanned yX2_isBanned, Cond.code yX2_isBanned cX2_isBanned 3 (some .boolean), Cond.methodLink RX2 108 yX1_bans, Cond.instanceMethod yX1_bans, Cond.selects RX1 yX1_bans yX1_bans, Cond.code yX1_bans cX1_bans 4 (some .boolean), Cond.fieldLink RX1 15 "FableIndex$Land" "bannedMorals" "[I", Cond.fieldLink RX1 38 "FableIndex$Book" "moral" "[I", Cond.fieldLink RX1 18 "FableIndex$Land" "bannedBeasts" "[I", Cond.fieldLink RX1 47 "FableIndex$Book" "beasts" "[I"]
def wsX2_mixedWithFable : List Cond := .code yX2_mixedWithFable cX2_mixedWithFable 7 (some .long) :: ((wsX2_mixedWithFable_r1 ++ (wsX2_mixedWithFable_r2 ++ (wsX2_mixedWithFable_r3 ++ wsX2_mixedWithFable_r4))) ++ wsX20 ++ wsX00 ++ wsX10 ++ (vx_atS RX2 242 "java/lang/IndexOutOfBoundsException" ["java/lang/RuntimeException", "java/lang/Exception"]).filter goodWord)
def wsX2_mixedWithValley_r1 : List Cond := [Cond.methodLink RX2 224 yX2_toldIn, Cond.instanceMethod yX2_toldIn, Cond.selects RX2 yX2_toldIn yX2_toldIn, Cond.initialized RX2, Cond.code yX2_toldIn cX2_toldIn 2 (some .int), Cond.fieldLink RX2 19 "FableIndex" "land" "LFableIndex$Land;", Cond.fieldLink RX2 103 "FableIndex$Land" "told" "[I", Cond.methodLink RX2 37 yX2_needValley, Cond.static yX2_needValley, Cond.code yX2_needValley cX2_needValley 1 none, Cond.classLink RX2 238 "java/lang/IndexOutOfBoundsException", Cond.initialized "java/lang/IndexOutOfBoundsException", Cond.methodLink RX2 70 yX2_size, Cond.static yX2_size, Cond.code yX2_size cX2_size 1 (some .int), Cond.methodLink RX2 253 yJ6_bitCount_0f7a4, Cond.static yJ6_bitCount_0f7a4, Cond.initialized RJ6, Cond.code yJ6_bitCount_0f7a4 cJ6_bitCount_0f7a4 1 (some .int), Cond.constant RJ6 265 (1431655765), Cond.constant RJ6 266 (858993459), Cond.constant RJ6 267 (252645135), Cond.methodLink RX2 173 yX2_mixed, Cond.static yX2_mixed]
def wsX2_mixedWithValley_r2 : List Cond := [Cond.code yX2_mixed cX2_mixed 3 (some .long), Cond.constantLong RX2 236 (31), Cond.methodLink RX2 227 yX2_allowedIn, Cond.instanceMethod yX2_allowedIn, Cond.selects RX2 yX2_allowedIn yX2_allowedIn, Cond.code yX2_allowedIn cX2_allowedIn 2 (some .int), Cond.fieldLink RX2 10 "FableIndex" "book" "LFableIndex$Book;", Cond.methodLink RX2 142 yX1_welcome, Cond.instanceMethod yX1_welcome, Cond.selects RX1 yX1_welcome yX1_welcome, Cond.initialized RX1, Cond.code yX1_welcome cX1_welcome 5 (some .int), Cond.fieldLink RX1 50 "FableIndex$Book" "count" "I", Cond.methodLink RX1 53 yX1_bans, Cond.instanceMethod yX1_bans, Cond.selects RX1 yX1_bans yX1_bans, Cond.code yX1_bans cX1_bans 4 (some .boolean), Cond.fieldLink RX1 15 "FableIndex$Land" "bannedMorals" "[I", Cond.fieldLink RX1 38 "FableIndex$Book" "moral" "[I", Cond.fieldLink RX1 18 "FableIndex$Land" "bannedBeasts" "[I", Cond.fieldLink RX1 47 "FableIndex$Book" "beasts" "[I", Cond.static yX2_has, Cond.code yX2_has cX2_has 2 (some .boolean), Cond.methodLink RX2 230 yX2_bansOf]
def wsX2_mixedWithValley_r3 : List Cond := [Cond.instanceMethod yX2_bansOf, Cond.selects RX2 yX2_bansOf yX2_bansOf, Cond.code yX2_bansOf cX2_bansOf 2 (some .int), Cond.fieldLink RX2 97 "FableIndex$Land" "bannedMorals" "[I", Cond.fieldLink RX2 100 "FableIndex$Land" "bannedBeasts" "[I", Cond.methodLink RX2 233 yX2_isOpen, Cond.instanceMethod yX2_isOpen, Cond.selects RX2 yX2_isOpen yX2_isOpen, Cond.code yX2_isOpen cX2_isOpen 3 (some .boolean), Cond.fieldLink RX2 94 "FableIndex$Land" "ways" "[I", Cond.methodLink RX2 54 yX2_has]
def wsX2_mixedWithValley : List Cond := .code yX2_mixedWithValley cX2_mixedWithValley 7 (some .long) :: ((wsX2_mixedWithValley_r1 ++ (wsX2_mixedWithValley_r2 ++ wsX2_mixedWithValley_r3)) ++ wsX20 ++ wsX10 ++ wsX00 ++ (vx_atS RX2 242 "java/lang/IndexOutOfBoundsException" ["java/lang/RuntimeException", "java/lang/Exception"]).filter goodWord)
def wsX2_digest_r1 : List Cond := [Cond.constantLong RX2 168 (1861), Cond.fieldLink RX2 10 "FableIndex" "book" "LFableIndex$Book;", Cond.fieldLink RX2 146 "FableIndex$Book" "count" "I", Cond.methodLink RX2 170 yX2_fables, Cond.instanceMethod yX2_fables, Cond.selects RX2 yX2_fables yX2_fables, Cond.initialized RX2, Cond.code yX2_fables cX2_fables 1 (some .int), Cond.methodLink RX2 173 yX2_mixed, Cond.static yX2_mixed, Cond.code yX2_mixed cX2_mixed 3 (some .long), Cond.constantLong RX2 236 (31), Cond.methodLink RX2 177 yX2_season, Cond.instanceMethod yX2_season, Cond.selects RX2 yX2_season yX2_season, Cond.code yX2_season cX2_season 1 (some .int), Cond.fieldLink RX2 26 "FableIndex" "season" "I", Cond.methodLink RX2 179 yX2_tellings, Cond.instanceMethod yX2_tellings, Cond.selects RX2 yX2_tellings yX2_tellings, Cond.code yX2_tellings cX2_tellings 1 (some .int), Cond.fieldLink RX2 19 "FableIndex" "land" "LFableIndex$Land;", Cond.methodLink RX2 126 yX0_all, Cond.instanceMethod yX0_all]
def wsX2_digest_r2 : List Cond := [Cond.selects RX0 yX0_all yX0_all, Cond.initialized RX0, Cond.code yX0_all cX0_all 1 (some .int), Cond.fieldLink RX0 9 "FableIndex$Book" "count" "I", Cond.methodLink RX2 114 yX1_count, Cond.instanceMethod yX1_count, Cond.selects RX1 yX1_count yX1_count, Cond.initialized RX1, Cond.code yX1_count cX1_count 4 (some .int), Cond.fieldLink RX1 21 "FableIndex$Land" "told" "[I", Cond.static yX2_size, Cond.code yX2_size cX2_size 1 (some .int), Cond.methodLink RX2 253 yJ6_bitCount_0f7a4, Cond.static yJ6_bitCount_0f7a4, Cond.initialized RJ6, Cond.code yJ6_bitCount_0f7a4 cJ6_bitCount_0f7a4 1 (some .int), Cond.constant RJ6 265 (1431655765), Cond.constant RJ6 266 (858993459), Cond.constant RJ6 267 (252645135), Cond.methodLink RX2 182 yX2_silenced, Cond.instanceMethod yX2_silenced, Cond.selects RX2 yX2_silenced yX2_silenced, Cond.code yX2_silenced cX2_silenced 1 (some .int), Cond.fieldLink RX2 148 "FableIndex$Land" "hushed" "I"]
def wsX2_digest_r3 : List Cond := [Cond.methodLink RX2 185 yX2_favouriteMoral, Cond.instanceMethod yX2_favouriteMoral, Cond.selects RX2 yX2_favouriteMoral yX2_favouriteMoral, Cond.code yX2_favouriteMoral cX2_favouriteMoral 5 (some .int), Cond.methodLink RX2 151 yX0_withMoral, Cond.instanceMethod yX0_withMoral, Cond.selects RX0 yX0_withMoral yX0_withMoral, Cond.code yX0_withMoral cX0_withMoral 4 (some .int), Cond.fieldLink RX0 15 "FableIndex$Book" "moral" "[I", Cond.methodLink RX2 188 yX2_favouriteBeast, Cond.instanceMethod yX2_favouriteBeast, Cond.selects RX2 yX2_favouriteBeast yX2_favouriteBeast, Cond.code yX2_favouriteBeast cX2_favouriteBeast 5 (some .int), Cond.methodLink RX2 154 yX0_withBeast, Cond.instanceMethod yX0_withBeast, Cond.selects RX0 yX0_withBeast yX0_withBeast, Cond.code yX0_withBeast cX0_withBeast 4 (some .int), Cond.fieldLink RX0 19 "FableIndex$Book" "beasts" "[I", Cond.static yX2_has, Cond.code yX2_has cX2_has 2 (some .boolean), Cond.methodLink RX2 191 yX2_mixedWithFable, Cond.instanceMethod yX2_mixedWithFable, Cond.selects RX2 yX2_mixedWithFable yX2_mixedWithFable, Cond.code yX2_mixedWithFable cX2_mixedWithFable 7 (some .long)]
def wsX2_digest_r4 : List Cond := [Cond.methodLink RX2 197 yX2_moralOf, Cond.instanceMethod yX2_moralOf, Cond.selects RX2 yX2_moralOf yX2_moralOf, Cond.code yX2_moralOf cX2_moralOf 2 (some .int), Cond.fieldLink RX2 78 "FableIndex$Book" "moral" "[I", Cond.methodLink RX2 47 yX2_needFable, Cond.instanceMethod yX2_needFable, Cond.selects RX2 yX2_needFable yX2_needFable, Cond.code yX2_needFable cX2_needFable 2 none, Cond.classLink RX2 238 "java/lang/IndexOutOfBoundsException", Cond.initialized "java/lang/IndexOutOfBoundsException", Cond.methodLink RX2 200 yX2_beastsOf, Cond.instanceMethod yX2_beastsOf, Cond.selects RX2 yX2_beastsOf yX2_beastsOf, Cond.code yX2_beastsOf cX2_beastsOf 2 (some .int), Cond.fieldLink RX2 50 "FableIndex$Book" "beasts" "[I", Cond.methodLink RX2 70 yX2_size, Cond.methodLink RX2 203 yX2_homeOf, Cond.instanceMethod yX2_homeOf, Cond.selects RX2 yX2_homeOf yX2_homeOf, Cond.code yX2_homeOf cX2_homeOf 2 (some .int), Cond.fieldLink RX2 130 "FableIndex$Book" "home" "[I", Cond.methodLink RX2 206 yX2_parentOf, Cond.instanceMethod yX2_parentOf]
def wsX2_digest_r5 : List Cond := [Cond.selects RX2 yX2_parentOf yX2_parentOf, Cond.code yX2_parentOf cX2_parentOf 2 (some .int), Cond.fieldLink RX2 133 "FableIndex$Book" "parent" "[I", Cond.methodLink RX2 209 yX2_variantsOf, Cond.instanceMethod yX2_variantsOf, Cond.selects RX2 yX2_variantsOf yX2_variantsOf, Cond.code yX2_variantsOf cX2_variantsOf 2 (some .int), Cond.fieldLink RX2 65 "FableIndex$Book" "variants" "[I", Cond.methodLink RX2 212 yX2_valleysOf, Cond.instanceMethod yX2_valleysOf, Cond.selects RX2 yX2_valleysOf yX2_valleysOf, Cond.code yX2_valleysOf cX2_valleysOf 2 (some .int), Cond.methodLink RX2 215 yX2_hasBeast, Cond.instanceMethod yX2_hasBeast, Cond.selects RX2 yX2_hasBeast yX2_hasBeast, Cond.code yX2_hasBeast cX2_hasBeast 3 (some .boolean), Cond.methodLink RX2 34 yX2_needBeast, Cond.static yX2_needBeast, Cond.code yX2_needBeast cX2_needBeast 1 none, Cond.methodLink RX2 54 yX2_has, Cond.methodLink RX2 218 yX2_isTold, Cond.instanceMethod yX2_isTold, Cond.selects RX2 yX2_isTold yX2_isTold, Cond.code yX2_isTold cX2_isTold 3 (some .boolean)]
def wsX2_digest_r6 : List Cond := [Cond.fieldLink RX2 103 "FableIndex$Land" "told" "[I", Cond.methodLink RX2 37 yX2_needValley, Cond.static yX2_needValley, Cond.code yX2_needValley cX2_needValley 1 none, Cond.methodLink RX2 221 yX2_isBanned, Cond.instanceMethod yX2_isBanned, Cond.selects RX2 yX2_isBanned yX2_isBanned, Cond.code yX2_isBanned cX2_isBanned 3 (some .boolean), Cond.methodLink RX2 108 yX1_bans, Cond.instanceMethod yX1_bans, Cond.selects RX1 yX1_bans yX1_bans, Cond.code yX1_bans cX1_bans 4 (some .boolean), Cond.fieldLink RX1 15 "FableIndex$Land" "bannedMorals" "[I", Cond.fieldLink RX1 38 "FableIndex$Book" "moral" "[I", Cond.fieldLink RX1 18 "FableIndex$Land" "bannedBeasts" "[I", Cond.fieldLink RX1 47 "FableIndex$Book" "beasts" "[I", Cond.methodLink RX2 194 yX2_mixedWithValley, Cond.instanceMethod yX2_mixedWithValley, Cond.selects RX2 yX2_mixedWithValley yX2_mixedWithValley, Cond.code yX2_mixedWithValley cX2_mixedWithValley 7 (some .long), Cond.methodLink RX2 224 yX2_toldIn, Cond.instanceMethod yX2_toldIn, Cond.selects RX2 yX2_toldIn yX2_toldIn, Cond.code yX2_toldIn cX2_toldIn 2 (some .int)]
def wsX2_digest_r7 : List Cond := [Cond.methodLink RX2 227 yX2_allowedIn, Cond.instanceMethod yX2_allowedIn, Cond.selects RX2 yX2_allowedIn yX2_allowedIn, Cond.code yX2_allowedIn cX2_allowedIn 2 (some .int), Cond.methodLink RX2 142 yX1_welcome, Cond.instanceMethod yX1_welcome, Cond.selects RX1 yX1_welcome yX1_welcome, Cond.code yX1_welcome cX1_welcome 5 (some .int), Cond.fieldLink RX1 50 "FableIndex$Book" "count" "I", Cond.methodLink RX1 53 yX1_bans, Cond.methodLink RX2 230 yX2_bansOf, Cond.instanceMethod yX2_bansOf, Cond.selects RX2 yX2_bansOf yX2_bansOf, Cond.code yX2_bansOf cX2_bansOf 2 (some .int), Cond.fieldLink RX2 97 "FableIndex$Land" "bannedMorals" "[I", Cond.fieldLink RX2 100 "FableIndex$Land" "bannedBeasts" "[I", Cond.methodLink RX2 233 yX2_isOpen, Cond.instanceMethod yX2_isOpen, Cond.selects RX2 yX2_isOpen yX2_isOpen, Cond.code yX2_isOpen cX2_isOpen 3 (some .boolean), Cond.fieldLink RX2 94 "FableIndex$Land" "ways" "[I"]
def wsX2_digest : List Cond := .code yX2_digest cX2_digest 4 (some .long) :: ((wsX2_digest_r1 ++ (wsX2_digest_r2 ++ (wsX2_digest_r3 ++ (wsX2_digest_r4 ++ (wsX2_digest_r5 ++ (wsX2_digest_r6 ++ wsX2_digest_r7)))))) ++ wsX20 ++ wsX00 ++ wsX10 ++ (vx_atS RX2 242 "java/lang/IndexOutOfBoundsException" ["java/lang/RuntimeException", "java/lang/Exception"]).filter goodWord)
def wsX3_init : List Cond := .code yX3_init cX3_init 1 none :: ([.methodLink RX3 1 objectInit, .instanceMethod objectInit, .code objectInit ⟨#[0xb1]⟩ 1 none, .arrayClass .int, .fieldLink RX3 9 "FableIndexModel" "moral" "[I", .fieldLink RX3 13 "FableIndexModel" "beasts" "[I", .fieldLink RX3 16 "FableIndexModel" "home" "[I", .fieldLink RX3 19 "FableIndexModel" "parent" "[I", .fieldLink RX3 22 "FableIndexModel" "told" "[I", .fieldLink RX3 25 "FableIndexModel" "morals" "[I", .fieldLink RX3 28 "FableIndexModel" "bans" "[I", .fieldLink RX3 31 "FableIndexModel" "passes" "[I", .fieldLink RX3 34 "FableIndexModel" "next" "[I", .fieldLink RX3 37 "FableIndexModel" "kept" "[I"] ++ wsX30)
def wsX3_thrown : List Cond := .code yX3_thrown cX3_thrown 1 (some .int) :: ([.fieldLink RX3 40 "FableIndexModel" "thrown" "I"] ++ wsX30)
def wsX3_fail : List Cond := .code yX3_fail cX3_fail 2 (some .int) :: ([.fieldLink RX3 40 "FableIndexModel" "thrown" "I"] ++ wsX30)
def wsX3_failed : List Cond := .code yX3_failed cX3_failed 2 (some .boolean) :: ([.fieldLink RX3 40 "FableIndexModel" "thrown" "I"] ++ wsX30)
def wsX3_isIn : List Cond := .code yX3_isIn cX3_isIn 3 (some .boolean) :: ([])
def wsX3_isFable : List Cond := .code yX3_isFable cX3_isFable 2 (some .boolean) :: ([.fieldLink RX3 44 "FableIndexModel" "fables" "I", .methodLink RX3 47 yX3_isIn, .static yX3_isIn, .initialized RX3, .code yX3_isIn cX3_isIn 3 (some .boolean)] ++ wsX30)
def wsX3_isValley : List Cond := .code yX3_isValley cX3_isValley 1 (some .boolean) :: ([.methodLink RX3 47 yX3_isIn, .static yX3_isIn, .initialized RX3, .code yX3_isIn cX3_isIn 3 (some .boolean)])
def wsX3_isBeast : List Cond := .code yX3_isBeast cX3_isBeast 1 (some .boolean) :: ([.methodLink RX3 47 yX3_isIn, .static yX3_isIn, .initialized RX3, .code yX3_isIn cX3_isIn 3 (some .boolean)])
def wsX3_isMoral : List Cond := .code yX3_isMoral cX3_isMoral 1 (some .boolean) :: ([.methodLink RX3 47 yX3_isIn, .static yX3_isIn, .initialized RX3, .code yX3_isIn cX3_isIn 3 (some .boolean)])
def wsX3_has : List Cond := .code yX3_has cX3_has 2 (some .boolean) :: ([])
def wsX3_many : List Cond := .code yX3_many cX3_many 3 (some .int) :: ([])
def wsX3_banned : List Cond := .code yX3_banned cX3_banned 3 (some .boolean) :: ([.fieldLink RX3 25 "FableIndexModel" "morals" "[I", .fieldLink RX3 9 "FableIndexModel" "moral" "[I", .fieldLink RX3 28 "FableIndexModel" "bans" "[I", .fieldLink RX3 13 "FableIndexModel" "beasts" "[I", .methodLink RX3 51 yX3_has, .static yX3_has, .initialized RX3, .code yX3_has cX3_has 2 (some .boolean)] ++ wsX30)
def wsX3_write : List Cond := .code yX3_write cX3_write 5 (some .int) :: ([.fieldLink RX3 9 "FableIndexModel" "moral" "[I", .fieldLink RX3 44 "FableIndexModel" "fables" "I", .fieldLink RX3 13 "FableIndexModel" "beasts" "[I", .fieldLink RX3 16 "FableIndexModel" "home" "[I", .fieldLink RX3 19 "FableIndexModel" "parent" "[I"] ++ wsX30)
def wsX3_children : List Cond := .code yX3_children cX3_children 4 (some .int) :: ([.fieldLink RX3 44 "FableIndexModel" "fables" "I", .fieldLink RX3 19 "FableIndexModel" "parent" "[I"] ++ wsX30)
def wsX3_addFable_r1 : List Cond := [Cond.fieldLink RX3 40 "FableIndexModel" "thrown" "I", Cond.fieldLink RX3 44 "FableIndexModel" "fables" "I", Cond.methodLink RX3 55 yX3_isMoral, Cond.static yX3_isMoral, Cond.initialized RX3, Cond.code yX3_isMoral cX3_isMoral 1 (some .boolean), Cond.methodLink RX3 47 yX3_isIn, Cond.static yX3_isIn, Cond.code yX3_isIn cX3_isIn 3 (some .boolean), Cond.methodLink RX3 59 yX3_isBeast, Cond.static yX3_isBeast, Cond.code yX3_isBeast cX3_isBeast 1 (some .boolean), Cond.methodLink RX3 62 yX3_isValley, Cond.static yX3_isValley, Cond.code yX3_isValley cX3_isValley 1 (some .boolean), Cond.methodLink RX3 65 yX3_fail, Cond.instanceMethod yX3_fail, Cond.selects RX3 yX3_fail yX3_fail, Cond.code yX3_fail cX3_fail 2 (some .int), Cond.methodLink RX3 69 yX3_write, Cond.instanceMethod yX3_write, Cond.selects RX3 yX3_write yX3_write, Cond.code yX3_write cX3_write 5 (some .int), Cond.fieldLink RX3 9 "FableIndexModel" "moral" "[I"]
def wsX3_addFable_r2 : List Cond := [Cond.fieldLink RX3 13 "FableIndexModel" "beasts" "[I", Cond.fieldLink RX3 16 "FableIndexModel" "home" "[I", Cond.fieldLink RX3 19 "FableIndexModel" "parent" "[I"]
def wsX3_addFable : List Cond := .code yX3_addFable cX3_addFable 4 (some .int) :: ((wsX3_addFable_r1 ++ wsX3_addFable_r2) ++ wsX30)
def wsX3_addBeast_r1 : List Cond := [Cond.fieldLink RX3 40 "FableIndexModel" "thrown" "I", Cond.fieldLink RX3 13 "FableIndexModel" "beasts" "[I", Cond.methodLink RX3 73 yX3_isFable, Cond.instanceMethod yX3_isFable, Cond.selects RX3 yX3_isFable yX3_isFable, Cond.initialized RX3, Cond.code yX3_isFable cX3_isFable 2 (some .boolean), Cond.fieldLink RX3 44 "FableIndexModel" "fables" "I", Cond.methodLink RX3 47 yX3_isIn, Cond.static yX3_isIn, Cond.code yX3_isIn cX3_isIn 3 (some .boolean), Cond.methodLink RX3 59 yX3_isBeast, Cond.static yX3_isBeast, Cond.code yX3_isBeast cX3_isBeast 1 (some .boolean), Cond.methodLink RX3 65 yX3_fail, Cond.instanceMethod yX3_fail, Cond.selects RX3 yX3_fail yX3_fail, Cond.code yX3_fail cX3_fail 2 (some .int), Cond.methodLink RX3 51 yX3_has, Cond.static yX3_has, Cond.code yX3_has cX3_has 2 (some .boolean), Cond.methodLink RX3 76 yX3_children, Cond.instanceMethod yX3_children, Cond.selects RX3 yX3_children yX3_children]
def wsX3_addBeast_r2 : List Cond := [Cond.code yX3_children cX3_children 4 (some .int), Cond.fieldLink RX3 19 "FableIndexModel" "parent" "[I", Cond.methodLink RX3 79 yX3_many, Cond.static yX3_many, Cond.code yX3_many cX3_many 3 (some .int)]
def wsX3_addBeast : List Cond := .code yX3_addBeast cX3_addBeast 3 (some .int) :: ((wsX3_addBeast_r1 ++ wsX3_addBeast_r2) ++ wsX30)
def wsX3_addVariant_r1 : List Cond := [Cond.fieldLink RX3 40 "FableIndexModel" "thrown" "I", Cond.fieldLink RX3 44 "FableIndexModel" "fables" "I", Cond.fieldLink RX3 13 "FableIndexModel" "beasts" "[I", Cond.fieldLink RX3 9 "FableIndexModel" "moral" "[I", Cond.methodLink RX3 73 yX3_isFable, Cond.instanceMethod yX3_isFable, Cond.selects RX3 yX3_isFable yX3_isFable, Cond.initialized RX3, Cond.code yX3_isFable cX3_isFable 2 (some .boolean), Cond.methodLink RX3 47 yX3_isIn, Cond.static yX3_isIn, Cond.code yX3_isIn cX3_isIn 3 (some .boolean), Cond.methodLink RX3 59 yX3_isBeast, Cond.static yX3_isBeast, Cond.code yX3_isBeast cX3_isBeast 1 (some .boolean), Cond.methodLink RX3 62 yX3_isValley, Cond.static yX3_isValley, Cond.code yX3_isValley cX3_isValley 1 (some .boolean), Cond.methodLink RX3 65 yX3_fail, Cond.instanceMethod yX3_fail, Cond.selects RX3 yX3_fail yX3_fail, Cond.code yX3_fail cX3_fail 2 (some .int), Cond.methodLink RX3 51 yX3_has, Cond.static yX3_has]
def wsX3_addVariant_r2 : List Cond := [Cond.code yX3_has cX3_has 2 (some .boolean), Cond.methodLink RX3 69 yX3_write, Cond.instanceMethod yX3_write, Cond.selects RX3 yX3_write yX3_write, Cond.code yX3_write cX3_write 5 (some .int), Cond.fieldLink RX3 16 "FableIndexModel" "home" "[I", Cond.fieldLink RX3 19 "FableIndexModel" "parent" "[I"]
def wsX3_addVariant : List Cond := .code yX3_addVariant cX3_addVariant 5 (some .int) :: ((wsX3_addVariant_r1 ++ wsX3_addVariant_r2) ++ wsX30)
def wsX3_turnPass : List Cond := .code yX3_turnPass cX3_turnPass 3 (some .boolean) :: ([.fieldLink RX3 40 "FableIndexModel" "thrown" "I", .fieldLink RX3 31 "FableIndexModel" "passes" "[I", .methodLink RX3 62 yX3_isValley, .static yX3_isValley, .initialized RX3, .code yX3_isValley cX3_isValley 1 (some .boolean), .methodLink RX3 47 yX3_isIn, .static yX3_isIn, .code yX3_isIn cX3_isIn 3 (some .boolean), .methodLink RX3 82 yX3_failed, .instanceMethod yX3_failed, .selects RX3 yX3_failed yX3_failed, .code yX3_failed cX3_failed 2 (some .boolean), .methodLink RX3 51 yX3_has, .static yX3_has, .code yX3_has cX3_has 2 (some .boolean)] ++ wsX30)
def wsX3_turnMoral : List Cond := .code yX3_turnMoral cX3_turnMoral 3 (some .boolean) :: ([.fieldLink RX3 40 "FableIndexModel" "thrown" "I", .fieldLink RX3 25 "FableIndexModel" "morals" "[I", .methodLink RX3 62 yX3_isValley, .static yX3_isValley, .initialized RX3, .code yX3_isValley cX3_isValley 1 (some .boolean), .methodLink RX3 47 yX3_isIn, .static yX3_isIn, .code yX3_isIn cX3_isIn 3 (some .boolean), .methodLink RX3 55 yX3_isMoral, .static yX3_isMoral, .code yX3_isMoral cX3_isMoral 1 (some .boolean), .methodLink RX3 82 yX3_failed, .instanceMethod yX3_failed, .selects RX3 yX3_failed yX3_failed, .code yX3_failed cX3_failed 2 (some .boolean), .methodLink RX3 51 yX3_has, .static yX3_has, .code yX3_has cX3_has 2 (some .boolean)] ++ wsX30)
def wsX3_turnBeast : List Cond := .code yX3_turnBeast cX3_turnBeast 3 (some .boolean) :: ([.fieldLink RX3 40 "FableIndexModel" "thrown" "I", .fieldLink RX3 28 "FableIndexModel" "bans" "[I", .methodLink RX3 62 yX3_isValley, .static yX3_isValley, .initialized RX3, .code yX3_isValley cX3_isValley 1 (some .boolean), .methodLink RX3 47 yX3_isIn, .static yX3_isIn, .code yX3_isIn cX3_isIn 3 (some .boolean), .methodLink RX3 59 yX3_isBeast, .static yX3_isBeast, .code yX3_isBeast cX3_isBeast 1 (some .boolean), .methodLink RX3 82 yX3_failed, .instanceMethod yX3_failed, .selects RX3 yX3_failed yX3_failed, .code yX3_failed cX3_failed 2 (some .boolean), .methodLink RX3 51 yX3_has, .static yX3_has, .code yX3_has cX3_has 2 (some .boolean)] ++ wsX30)
def wsX3_isPlace : List Cond := .code yX3_isPlace cX3_isPlace 3 (some .boolean) :: ([.methodLink RX3 73 yX3_isFable, .instanceMethod yX3_isFable, .selects RX3 yX3_isFable yX3_isFable, .initialized RX3, .code yX3_isFable cX3_isFable 2 (some .boolean), .fieldLink RX3 44 "FableIndexModel" "fables" "I", .methodLink RX3 47 yX3_isIn, .static yX3_isIn, .code yX3_isIn cX3_isIn 3 (some .boolean), .methodLink RX3 62 yX3_isValley, .static yX3_isValley, .code yX3_isValley cX3_isValley 1 (some .boolean)] ++ wsX30)
def wsX3_placesOf : List Cond := .code yX3_placesOf cX3_placesOf 4 (some .int) :: ([.fieldLink RX3 22 "FableIndexModel" "told" "[I", .methodLink RX3 51 yX3_has, .static yX3_has, .initialized RX3, .code yX3_has cX3_has 2 (some .boolean)] ++ wsX30)
def wsX3_tell_r1 : List Cond := [Cond.fieldLink RX3 40 "FableIndexModel" "thrown" "I", Cond.fieldLink RX3 22 "FableIndexModel" "told" "[I", Cond.methodLink RX3 85 yX3_isPlace, Cond.instanceMethod yX3_isPlace, Cond.selects RX3 yX3_isPlace yX3_isPlace, Cond.initialized RX3, Cond.code yX3_isPlace cX3_isPlace 3 (some .boolean), Cond.methodLink RX3 73 yX3_isFable, Cond.instanceMethod yX3_isFable, Cond.selects RX3 yX3_isFable yX3_isFable, Cond.code yX3_isFable cX3_isFable 2 (some .boolean), Cond.fieldLink RX3 44 "FableIndexModel" "fables" "I", Cond.methodLink RX3 47 yX3_isIn, Cond.static yX3_isIn, Cond.code yX3_isIn cX3_isIn 3 (some .boolean), Cond.methodLink RX3 62 yX3_isValley, Cond.static yX3_isValley, Cond.code yX3_isValley cX3_isValley 1 (some .boolean), Cond.methodLink RX3 65 yX3_fail, Cond.instanceMethod yX3_fail, Cond.selects RX3 yX3_fail yX3_fail, Cond.code yX3_fail cX3_fail 2 (some .int), Cond.methodLink RX3 51 yX3_has, Cond.static yX3_has]
def wsX3_tell_r2 : List Cond := [Cond.code yX3_has cX3_has 2 (some .boolean), Cond.methodLink RX3 88 yX3_banned, Cond.instanceMethod yX3_banned, Cond.selects RX3 yX3_banned yX3_banned, Cond.code yX3_banned cX3_banned 3 (some .boolean), Cond.fieldLink RX3 25 "FableIndexModel" "morals" "[I", Cond.fieldLink RX3 9 "FableIndexModel" "moral" "[I", Cond.fieldLink RX3 28 "FableIndexModel" "bans" "[I", Cond.fieldLink RX3 13 "FableIndexModel" "beasts" "[I", Cond.methodLink RX3 91 yX3_placesOf, Cond.instanceMethod yX3_placesOf, Cond.selects RX3 yX3_placesOf yX3_placesOf, Cond.code yX3_placesOf cX3_placesOf 4 (some .int)]
def wsX3_tell : List Cond := .code yX3_tell cX3_tell 3 (some .int) :: ((wsX3_tell_r1 ++ wsX3_tell_r2) ++ wsX30)
def wsX3_forget_r1 : List Cond := [Cond.fieldLink RX3 40 "FableIndexModel" "thrown" "I", Cond.fieldLink RX3 22 "FableIndexModel" "told" "[I", Cond.methodLink RX3 85 yX3_isPlace, Cond.instanceMethod yX3_isPlace, Cond.selects RX3 yX3_isPlace yX3_isPlace, Cond.initialized RX3, Cond.code yX3_isPlace cX3_isPlace 3 (some .boolean), Cond.methodLink RX3 73 yX3_isFable, Cond.instanceMethod yX3_isFable, Cond.selects RX3 yX3_isFable yX3_isFable, Cond.code yX3_isFable cX3_isFable 2 (some .boolean), Cond.fieldLink RX3 44 "FableIndexModel" "fables" "I", Cond.methodLink RX3 47 yX3_isIn, Cond.static yX3_isIn, Cond.code yX3_isIn cX3_isIn 3 (some .boolean), Cond.methodLink RX3 62 yX3_isValley, Cond.static yX3_isValley, Cond.code yX3_isValley cX3_isValley 1 (some .boolean), Cond.methodLink RX3 65 yX3_fail, Cond.instanceMethod yX3_fail, Cond.selects RX3 yX3_fail yX3_fail, Cond.code yX3_fail cX3_fail 2 (some .int), Cond.methodLink RX3 51 yX3_has, Cond.static yX3_has]
def wsX3_forget_r2 : List Cond := [Cond.code yX3_has cX3_has 2 (some .boolean), Cond.methodLink RX3 91 yX3_placesOf, Cond.instanceMethod yX3_placesOf, Cond.selects RX3 yX3_placesOf yX3_placesOf, Cond.code yX3_placesOf cX3_placesOf 4 (some .int)]
def wsX3_forget : List Cond := .code yX3_forget cX3_forget 3 (some .int) :: ((wsX3_forget_r1 ++ wsX3_forget_r2) ++ wsX30)
def wsX3_all : List Cond := .code yX3_all cX3_all 6 (some .int) :: ([.fieldLink RX3 22 "FableIndexModel" "told" "[I", .methodLink RX3 79 yX3_many, .static yX3_many, .initialized RX3, .code yX3_many cX3_many 3 (some .int)] ++ wsX30)
def wsX3_comes : List Cond := .code yX3_comes cX3_comes 4 (some .int) :: ([.fieldLink RX3 25 "FableIndexModel" "morals" "[I", .fieldLink RX3 9 "FableIndexModel" "moral" "[I", .fieldLink RX3 44 "FableIndexModel" "fables" "I", .fieldLink RX3 19 "FableIndexModel" "parent" "[I", .methodLink RX3 88 yX3_banned, .instanceMethod yX3_banned, .selects RX3 yX3_banned yX3_banned, .initialized RX3, .code yX3_banned cX3_banned 3 (some .boolean), .fieldLink RX3 28 "FableIndexModel" "bans" "[I", .fieldLink RX3 13 "FableIndexModel" "beasts" "[I", .methodLink RX3 51 yX3_has, .static yX3_has, .code yX3_has cX3_has 2 (some .boolean)] ++ wsX30)
def wsX3_seasonOn_r1 : List Cond := [Cond.fieldLink RX3 44 "FableIndexModel" "fables" "I", Cond.fieldLink RX3 22 "FableIndexModel" "told" "[I", Cond.fieldLink RX3 34 "FableIndexModel" "next" "[I", Cond.fieldLink RX3 31 "FableIndexModel" "passes" "[I", Cond.methodLink RX3 98 arraycopyName, Cond.native arraycopyName, Cond.static arraycopyName, Cond.initialized "java/lang/System", Cond.methodLink RX3 51 yX3_has, Cond.static yX3_has, Cond.initialized RX3, Cond.code yX3_has cX3_has 2 (some .boolean), Cond.methodLink RX3 88 yX3_banned, Cond.instanceMethod yX3_banned, Cond.selects RX3 yX3_banned yX3_banned, Cond.code yX3_banned cX3_banned 3 (some .boolean), Cond.fieldLink RX3 25 "FableIndexModel" "morals" "[I", Cond.fieldLink RX3 9 "FableIndexModel" "moral" "[I", Cond.fieldLink RX3 28 "FableIndexModel" "bans" "[I", Cond.fieldLink RX3 13 "FableIndexModel" "beasts" "[I", Cond.methodLink RX3 94 yX3_comes, Cond.instanceMethod yX3_comes, Cond.selects RX3 yX3_comes yX3_comes, Cond.code yX3_comes cX3_comes 4 (some .int)]
def wsX3_seasonOn_r2 : List Cond := [Cond.fieldLink RX3 19 "FableIndexModel" "parent" "[I"]
def wsX3_seasonOn : List Cond := .code yX3_seasonOn cX3_seasonOn 6 (some .int) :: ((wsX3_seasonOn_r1 ++ wsX3_seasonOn_r2) ++ wsX30)
def wsX3_passSeasons_r1 : List Cond := [Cond.fieldLink RX3 40 "FableIndexModel" "thrown" "I", Cond.fieldLink RX3 104 "FableIndexModel" "silenced" "I", Cond.fieldLink RX3 111 "FableIndexModel" "season" "I", Cond.methodLink RX3 47 yX3_isIn, Cond.static yX3_isIn, Cond.initialized RX3, Cond.code yX3_isIn cX3_isIn 3 (some .boolean), Cond.methodLink RX3 65 yX3_fail, Cond.instanceMethod yX3_fail, Cond.selects RX3 yX3_fail yX3_fail, Cond.code yX3_fail cX3_fail 2 (some .int), Cond.methodLink RX3 107 yX3_seasonOn, Cond.instanceMethod yX3_seasonOn, Cond.selects RX3 yX3_seasonOn yX3_seasonOn, Cond.code yX3_seasonOn cX3_seasonOn 6 (some .int), Cond.fieldLink RX3 44 "FableIndexModel" "fables" "I", Cond.fieldLink RX3 22 "FableIndexModel" "told" "[I", Cond.fieldLink RX3 34 "FableIndexModel" "next" "[I", Cond.fieldLink RX3 31 "FableIndexModel" "passes" "[I", Cond.methodLink RX3 98 arraycopyName, Cond.native arraycopyName, Cond.static arraycopyName, Cond.initialized "java/lang/System", Cond.methodLink RX3 51 yX3_has]
def wsX3_passSeasons_r2 : List Cond := [Cond.static yX3_has, Cond.code yX3_has cX3_has 2 (some .boolean), Cond.methodLink RX3 88 yX3_banned, Cond.instanceMethod yX3_banned, Cond.selects RX3 yX3_banned yX3_banned, Cond.code yX3_banned cX3_banned 3 (some .boolean), Cond.fieldLink RX3 25 "FableIndexModel" "morals" "[I", Cond.fieldLink RX3 9 "FableIndexModel" "moral" "[I", Cond.fieldLink RX3 28 "FableIndexModel" "bans" "[I", Cond.fieldLink RX3 13 "FableIndexModel" "beasts" "[I", Cond.methodLink RX3 94 yX3_comes, Cond.instanceMethod yX3_comes, Cond.selects RX3 yX3_comes yX3_comes, Cond.code yX3_comes cX3_comes 4 (some .int), Cond.fieldLink RX3 19 "FableIndexModel" "parent" "[I", Cond.methodLink RX3 114 yX3_all, Cond.instanceMethod yX3_all, Cond.selects RX3 yX3_all yX3_all, Cond.code yX3_all cX3_all 6 (some .int), Cond.methodLink RX3 79 yX3_many, Cond.static yX3_many, Cond.code yX3_many cX3_many 3 (some .int)]
def wsX3_passSeasons : List Cond := .code yX3_passSeasons cX3_passSeasons 3 (some .int) :: ((wsX3_passSeasons_r1 ++ wsX3_passSeasons_r2) ++ wsX30)
def wsX3_moralOf : List Cond := .code yX3_moralOf cX3_moralOf 2 (some .int) :: ([.fieldLink RX3 40 "FableIndexModel" "thrown" "I", .fieldLink RX3 9 "FableIndexModel" "moral" "[I", .methodLink RX3 73 yX3_isFable, .instanceMethod yX3_isFable, .selects RX3 yX3_isFable yX3_isFable, .initialized RX3, .code yX3_isFable cX3_isFable 2 (some .boolean), .fieldLink RX3 44 "FableIndexModel" "fables" "I", .methodLink RX3 47 yX3_isIn, .static yX3_isIn, .code yX3_isIn cX3_isIn 3 (some .boolean), .methodLink RX3 65 yX3_fail, .instanceMethod yX3_fail, .selects RX3 yX3_fail yX3_fail, .code yX3_fail cX3_fail 2 (some .int)] ++ wsX30)
def wsX3_beastsOf : List Cond := .code yX3_beastsOf cX3_beastsOf 2 (some .int) :: ([.fieldLink RX3 40 "FableIndexModel" "thrown" "I", .fieldLink RX3 13 "FableIndexModel" "beasts" "[I", .methodLink RX3 73 yX3_isFable, .instanceMethod yX3_isFable, .selects RX3 yX3_isFable yX3_isFable, .initialized RX3, .code yX3_isFable cX3_isFable 2 (some .boolean), .fieldLink RX3 44 "FableIndexModel" "fables" "I", .methodLink RX3 47 yX3_isIn, .static yX3_isIn, .code yX3_isIn cX3_isIn 3 (some .boolean), .methodLink RX3 79 yX3_many, .static yX3_many, .code yX3_many cX3_many 3 (some .int), .methodLink RX3 65 yX3_fail, .instanceMethod yX3_fail, .selects RX3 yX3_fail yX3_fail, .code yX3_fail cX3_fail 2 (some .int)] ++ wsX30)
def wsX3_hasBeast : List Cond := .code yX3_hasBeast cX3_hasBeast 3 (some .boolean) :: ([.fieldLink RX3 40 "FableIndexModel" "thrown" "I", .fieldLink RX3 13 "FableIndexModel" "beasts" "[I", .methodLink RX3 73 yX3_isFable, .instanceMethod yX3_isFable, .selects RX3 yX3_isFable yX3_isFable, .initialized RX3, .code yX3_isFable cX3_isFable 2 (some .boolean), .fieldLink RX3 44 "FableIndexModel" "fables" "I", .methodLink RX3 47 yX3_isIn, .static yX3_isIn, .code yX3_isIn cX3_isIn 3 (some .boolean), .methodLink RX3 59 yX3_isBeast, .static yX3_isBeast, .code yX3_isBeast cX3_isBeast 1 (some .boolean), .methodLink RX3 51 yX3_has, .static yX3_has, .code yX3_has cX3_has 2 (some .boolean), .methodLink RX3 82 yX3_failed, .instanceMethod yX3_failed, .selects RX3 yX3_failed yX3_failed, .code yX3_failed cX3_failed 2 (some .boolean)] ++ wsX30)
def wsX3_homeOf : List Cond := .code yX3_homeOf cX3_homeOf 2 (some .int) :: ([.fieldLink RX3 40 "FableIndexModel" "thrown" "I", .fieldLink RX3 16 "FableIndexModel" "home" "[I", .methodLink RX3 73 yX3_isFable, .instanceMethod yX3_isFable, .selects RX3 yX3_isFable yX3_isFable, .initialized RX3, .code yX3_isFable cX3_isFable 2 (some .boolean), .fieldLink RX3 44 "FableIndexModel" "fables" "I", .methodLink RX3 47 yX3_isIn, .static yX3_isIn, .code yX3_isIn cX3_isIn 3 (some .boolean), .methodLink RX3 65 yX3_fail, .instanceMethod yX3_fail, .selects RX3 yX3_fail yX3_fail, .code yX3_fail cX3_fail 2 (some .int)] ++ wsX30)
def wsX3_parentOf : List Cond := .code yX3_parentOf cX3_parentOf 2 (some .int) :: ([.fieldLink RX3 40 "FableIndexModel" "thrown" "I", .fieldLink RX3 19 "FableIndexModel" "parent" "[I", .methodLink RX3 73 yX3_isFable, .instanceMethod yX3_isFable, .selects RX3 yX3_isFable yX3_isFable, .initialized RX3, .code yX3_isFable cX3_isFable 2 (some .boolean), .fieldLink RX3 44 "FableIndexModel" "fables" "I", .methodLink RX3 47 yX3_isIn, .static yX3_isIn, .code yX3_isIn cX3_isIn 3 (some .boolean), .methodLink RX3 65 yX3_fail, .instanceMethod yX3_fail, .selects RX3 yX3_fail yX3_fail, .code yX3_fail cX3_fail 2 (some .int)] ++ wsX30)
def wsX3_variantsOf : List Cond := .code yX3_variantsOf cX3_variantsOf 2 (some .int) :: ([.fieldLink RX3 40 "FableIndexModel" "thrown" "I", .methodLink RX3 73 yX3_isFable, .instanceMethod yX3_isFable, .selects RX3 yX3_isFable yX3_isFable, .initialized RX3, .code yX3_isFable cX3_isFable 2 (some .boolean), .fieldLink RX3 44 "FableIndexModel" "fables" "I", .methodLink RX3 47 yX3_isIn, .static yX3_isIn, .code yX3_isIn cX3_isIn 3 (some .boolean), .methodLink RX3 76 yX3_children, .instanceMethod yX3_children, .selects RX3 yX3_children yX3_children, .code yX3_children cX3_children 4 (some .int), .fieldLink RX3 19 "FableIndexModel" "parent" "[I", .methodLink RX3 65 yX3_fail, .instanceMethod yX3_fail, .selects RX3 yX3_fail yX3_fail, .code yX3_fail cX3_fail 2 (some .int)] ++ wsX30)
def wsX3_valleysOf : List Cond := .code yX3_valleysOf cX3_valleysOf 2 (some .int) :: ([.fieldLink RX3 40 "FableIndexModel" "thrown" "I", .methodLink RX3 73 yX3_isFable, .instanceMethod yX3_isFable, .selects RX3 yX3_isFable yX3_isFable, .initialized RX3, .code yX3_isFable cX3_isFable 2 (some .boolean), .fieldLink RX3 44 "FableIndexModel" "fables" "I", .methodLink RX3 47 yX3_isIn, .static yX3_isIn, .code yX3_isIn cX3_isIn 3 (some .boolean), .methodLink RX3 91 yX3_placesOf, .instanceMethod yX3_placesOf, .selects RX3 yX3_placesOf yX3_placesOf, .code yX3_placesOf cX3_placesOf 4 (some .int), .fieldLink RX3 22 "FableIndexModel" "told" "[I", .methodLink RX3 51 yX3_has, .static yX3_has, .code yX3_has cX3_has 2 (some .boolean), .methodLink RX3 65 yX3_fail, .instanceMethod yX3_fail, .selects RX3 yX3_fail yX3_fail, .code yX3_fail cX3_fail 2 (some .int)] ++ wsX30)
def wsX3_ancestors : List Cond := .code yX3_ancestors cX3_ancestors 4 (some .int) :: ([.fieldLink RX3 19 "FableIndexModel" "parent" "[I"] ++ wsX30)
def wsX3_nearest : List Cond := .code yX3_nearest cX3_nearest 5 (some .int) :: ([.fieldLink RX3 44 "FableIndexModel" "fables" "I", .methodLink RX3 117 yX3_ancestors, .instanceMethod yX3_ancestors, .selects RX3 yX3_ancestors yX3_ancestors, .initialized RX3, .code yX3_ancestors cX3_ancestors 4 (some .int), .fieldLink RX3 19 "FableIndexModel" "parent" "[I", .methodLink RX3 51 yX3_has, .static yX3_has, .code yX3_has cX3_has 2 (some .boolean)] ++ wsX30)
def wsX3_nearestAncestor_r1 : List Cond := [Cond.fieldLink RX3 40 "FableIndexModel" "thrown" "I", Cond.methodLink RX3 73 yX3_isFable, Cond.instanceMethod yX3_isFable, Cond.selects RX3 yX3_isFable yX3_isFable, Cond.initialized RX3, Cond.code yX3_isFable cX3_isFable 2 (some .boolean), Cond.fieldLink RX3 44 "FableIndexModel" "fables" "I", Cond.methodLink RX3 47 yX3_isIn, Cond.static yX3_isIn, Cond.code yX3_isIn cX3_isIn 3 (some .boolean), Cond.methodLink RX3 120 yX3_nearest, Cond.instanceMethod yX3_nearest, Cond.selects RX3 yX3_nearest yX3_nearest, Cond.code yX3_nearest cX3_nearest 5 (some .int), Cond.methodLink RX3 117 yX3_ancestors, Cond.instanceMethod yX3_ancestors, Cond.selects RX3 yX3_ancestors yX3_ancestors, Cond.code yX3_ancestors cX3_ancestors 4 (some .int), Cond.fieldLink RX3 19 "FableIndexModel" "parent" "[I", Cond.methodLink RX3 51 yX3_has, Cond.static yX3_has, Cond.code yX3_has cX3_has 2 (some .boolean), Cond.methodLink RX3 65 yX3_fail, Cond.instanceMethod yX3_fail]
def wsX3_nearestAncestor_r2 : List Cond := [Cond.selects RX3 yX3_fail yX3_fail, Cond.code yX3_fail cX3_fail 2 (some .int)]
def wsX3_nearestAncestor : List Cond := .code yX3_nearestAncestor cX3_nearestAncestor 3 (some .int) :: ((wsX3_nearestAncestor_r1 ++ wsX3_nearestAncestor_r2) ++ wsX30)
def wsX3_kinship_r1 : List Cond := [Cond.fieldLink RX3 40 "FableIndexModel" "thrown" "I", Cond.methodLink RX3 73 yX3_isFable, Cond.instanceMethod yX3_isFable, Cond.selects RX3 yX3_isFable yX3_isFable, Cond.initialized RX3, Cond.code yX3_isFable cX3_isFable 2 (some .boolean), Cond.fieldLink RX3 44 "FableIndexModel" "fables" "I", Cond.methodLink RX3 47 yX3_isIn, Cond.static yX3_isIn, Cond.code yX3_isIn cX3_isIn 3 (some .boolean), Cond.methodLink RX3 65 yX3_fail, Cond.instanceMethod yX3_fail, Cond.selects RX3 yX3_fail yX3_fail, Cond.code yX3_fail cX3_fail 2 (some .int), Cond.methodLink RX3 120 yX3_nearest, Cond.instanceMethod yX3_nearest, Cond.selects RX3 yX3_nearest yX3_nearest, Cond.code yX3_nearest cX3_nearest 5 (some .int), Cond.methodLink RX3 117 yX3_ancestors, Cond.instanceMethod yX3_ancestors, Cond.selects RX3 yX3_ancestors yX3_ancestors, Cond.code yX3_ancestors cX3_ancestors 4 (some .int), Cond.fieldLink RX3 19 "FableIndexModel" "parent" "[I", Cond.methodLink RX3 51 yX3_has]
def wsX3_kinship_r2 : List Cond := [Cond.static yX3_has, Cond.code yX3_has cX3_has 2 (some .boolean), Cond.methodLink RX3 79 yX3_many, Cond.static yX3_many, Cond.code yX3_many cX3_many 3 (some .int)]
def wsX3_kinship : List Cond := .code yX3_kinship cX3_kinship 4 (some .int) :: ((wsX3_kinship_r1 ++ wsX3_kinship_r2) ++ wsX30)
def wsX3_sharedBeasts : List Cond := .code yX3_sharedBeasts cX3_sharedBeasts 3 (some .int) :: ([.fieldLink RX3 40 "FableIndexModel" "thrown" "I", .fieldLink RX3 13 "FableIndexModel" "beasts" "[I", .methodLink RX3 73 yX3_isFable, .instanceMethod yX3_isFable, .selects RX3 yX3_isFable yX3_isFable, .initialized RX3, .code yX3_isFable cX3_isFable 2 (some .boolean), .fieldLink RX3 44 "FableIndexModel" "fables" "I", .methodLink RX3 47 yX3_isIn, .static yX3_isIn, .code yX3_isIn cX3_isIn 3 (some .boolean), .methodLink RX3 79 yX3_many, .static yX3_many, .code yX3_many cX3_many 3 (some .int), .methodLink RX3 65 yX3_fail, .instanceMethod yX3_fail, .selects RX3 yX3_fail yX3_fail, .code yX3_fail cX3_fail 2 (some .int)] ++ wsX30)
def wsX3_isOpen : List Cond := .code yX3_isOpen cX3_isOpen 3 (some .boolean) :: ([.fieldLink RX3 40 "FableIndexModel" "thrown" "I", .fieldLink RX3 31 "FableIndexModel" "passes" "[I", .methodLink RX3 62 yX3_isValley, .static yX3_isValley, .initialized RX3, .code yX3_isValley cX3_isValley 1 (some .boolean), .methodLink RX3 47 yX3_isIn, .static yX3_isIn, .code yX3_isIn cX3_isIn 3 (some .boolean), .methodLink RX3 51 yX3_has, .static yX3_has, .code yX3_has cX3_has 2 (some .boolean), .methodLink RX3 82 yX3_failed, .instanceMethod yX3_failed, .selects RX3 yX3_failed yX3_failed, .code yX3_failed cX3_failed 2 (some .boolean)] ++ wsX30)
def wsX3_isBanned_r1 : List Cond := [Cond.fieldLink RX3 40 "FableIndexModel" "thrown" "I", Cond.methodLink RX3 85 yX3_isPlace, Cond.instanceMethod yX3_isPlace, Cond.selects RX3 yX3_isPlace yX3_isPlace, Cond.initialized RX3, Cond.code yX3_isPlace cX3_isPlace 3 (some .boolean), Cond.methodLink RX3 73 yX3_isFable, Cond.instanceMethod yX3_isFable, Cond.selects RX3 yX3_isFable yX3_isFable, Cond.code yX3_isFable cX3_isFable 2 (some .boolean), Cond.fieldLink RX3 44 "FableIndexModel" "fables" "I", Cond.methodLink RX3 47 yX3_isIn, Cond.static yX3_isIn, Cond.code yX3_isIn cX3_isIn 3 (some .boolean), Cond.methodLink RX3 62 yX3_isValley, Cond.static yX3_isValley, Cond.code yX3_isValley cX3_isValley 1 (some .boolean), Cond.methodLink RX3 88 yX3_banned, Cond.instanceMethod yX3_banned, Cond.selects RX3 yX3_banned yX3_banned, Cond.code yX3_banned cX3_banned 3 (some .boolean), Cond.fieldLink RX3 25 "FableIndexModel" "morals" "[I", Cond.fieldLink RX3 9 "FableIndexModel" "moral" "[I", Cond.fieldLink RX3 28 "FableIndexModel" "bans" "[I"]
def wsX3_isBanned_r2 : List Cond := [Cond.fieldLink RX3 13 "FableIndexModel" "beasts" "[I", Cond.methodLink RX3 51 yX3_has, Cond.static yX3_has, Cond.code yX3_has cX3_has 2 (some .boolean), Cond.methodLink RX3 82 yX3_failed, Cond.instanceMethod yX3_failed, Cond.selects RX3 yX3_failed yX3_failed, Cond.code yX3_failed cX3_failed 2 (some .boolean)]
def wsX3_isBanned : List Cond := .code yX3_isBanned cX3_isBanned 3 (some .boolean) :: ((wsX3_isBanned_r1 ++ wsX3_isBanned_r2) ++ wsX30)
def wsX3_isTold_r1 : List Cond := [Cond.fieldLink RX3 40 "FableIndexModel" "thrown" "I", Cond.fieldLink RX3 22 "FableIndexModel" "told" "[I", Cond.methodLink RX3 85 yX3_isPlace, Cond.instanceMethod yX3_isPlace, Cond.selects RX3 yX3_isPlace yX3_isPlace, Cond.initialized RX3, Cond.code yX3_isPlace cX3_isPlace 3 (some .boolean), Cond.methodLink RX3 73 yX3_isFable, Cond.instanceMethod yX3_isFable, Cond.selects RX3 yX3_isFable yX3_isFable, Cond.code yX3_isFable cX3_isFable 2 (some .boolean), Cond.fieldLink RX3 44 "FableIndexModel" "fables" "I", Cond.methodLink RX3 47 yX3_isIn, Cond.static yX3_isIn, Cond.code yX3_isIn cX3_isIn 3 (some .boolean), Cond.methodLink RX3 62 yX3_isValley, Cond.static yX3_isValley, Cond.code yX3_isValley cX3_isValley 1 (some .boolean), Cond.methodLink RX3 51 yX3_has, Cond.static yX3_has, Cond.code yX3_has cX3_has 2 (some .boolean), Cond.methodLink RX3 82 yX3_failed, Cond.instanceMethod yX3_failed, Cond.selects RX3 yX3_failed yX3_failed]
def wsX3_isTold_r2 : List Cond := [Cond.code yX3_failed cX3_failed 2 (some .boolean)]
def wsX3_isTold : List Cond := .code yX3_isTold cX3_isTold 3 (some .boolean) :: ((wsX3_isTold_r1 ++ wsX3_isTold_r2) ++ wsX30)
def wsX3_toldIn : List Cond := .code yX3_toldIn cX3_toldIn 2 (some .int) :: ([.fieldLink RX3 40 "FableIndexModel" "thrown" "I", .fieldLink RX3 22 "FableIndexModel" "told" "[I", .methodLink RX3 62 yX3_isValley, .static yX3_isValley, .initialized RX3, .code yX3_isValley cX3_isValley 1 (some .boolean), .methodLink RX3 47 yX3_isIn, .static yX3_isIn, .code yX3_isIn cX3_isIn 3 (some .boolean), .methodLink RX3 79 yX3_many, .static yX3_many, .code yX3_many cX3_many 3 (some .int), .methodLink RX3 65 yX3_fail, .instanceMethod yX3_fail, .selects RX3 yX3_fail yX3_fail, .code yX3_fail cX3_fail 2 (some .int)] ++ wsX30)
def wsX3_allowed : List Cond := .code yX3_allowed cX3_allowed 4 (some .int) :: ([.fieldLink RX3 44 "FableIndexModel" "fables" "I", .methodLink RX3 88 yX3_banned, .instanceMethod yX3_banned, .selects RX3 yX3_banned yX3_banned, .initialized RX3, .code yX3_banned cX3_banned 3 (some .boolean), .fieldLink RX3 25 "FableIndexModel" "morals" "[I", .fieldLink RX3 9 "FableIndexModel" "moral" "[I", .fieldLink RX3 28 "FableIndexModel" "bans" "[I", .fieldLink RX3 13 "FableIndexModel" "beasts" "[I", .methodLink RX3 51 yX3_has, .static yX3_has, .code yX3_has cX3_has 2 (some .boolean)] ++ wsX30)
def wsX3_allowedIn_r1 : List Cond := [Cond.fieldLink RX3 40 "FableIndexModel" "thrown" "I", Cond.methodLink RX3 62 yX3_isValley, Cond.static yX3_isValley, Cond.initialized RX3, Cond.code yX3_isValley cX3_isValley 1 (some .boolean), Cond.methodLink RX3 47 yX3_isIn, Cond.static yX3_isIn, Cond.code yX3_isIn cX3_isIn 3 (some .boolean), Cond.methodLink RX3 123 yX3_allowed, Cond.instanceMethod yX3_allowed, Cond.selects RX3 yX3_allowed yX3_allowed, Cond.code yX3_allowed cX3_allowed 4 (some .int), Cond.fieldLink RX3 44 "FableIndexModel" "fables" "I", Cond.methodLink RX3 88 yX3_banned, Cond.instanceMethod yX3_banned, Cond.selects RX3 yX3_banned yX3_banned, Cond.code yX3_banned cX3_banned 3 (some .boolean), Cond.fieldLink RX3 25 "FableIndexModel" "morals" "[I", Cond.fieldLink RX3 9 "FableIndexModel" "moral" "[I", Cond.fieldLink RX3 28 "FableIndexModel" "bans" "[I", Cond.fieldLink RX3 13 "FableIndexModel" "beasts" "[I", Cond.methodLink RX3 51 yX3_has, Cond.static yX3_has, Cond.code yX3_has cX3_has 2 (some .boolean)]
def wsX3_allowedIn_r2 : List Cond := [Cond.methodLink RX3 65 yX3_fail, Cond.instanceMethod yX3_fail, Cond.selects RX3 yX3_fail yX3_fail, Cond.code yX3_fail cX3_fail 2 (some .int)]
def wsX3_allowedIn : List Cond := .code yX3_allowedIn cX3_allowedIn 2 (some .int) :: ((wsX3_allowedIn_r1 ++ wsX3_allowedIn_r2) ++ wsX30)
def wsX3_bansIn : List Cond := .code yX3_bansIn cX3_bansIn 2 (some .int) :: ([.fieldLink RX3 25 "FableIndexModel" "morals" "[I", .fieldLink RX3 28 "FableIndexModel" "bans" "[I", .methodLink RX3 79 yX3_many, .static yX3_many, .initialized RX3, .code yX3_many cX3_many 3 (some .int)] ++ wsX30)
def wsX3_bansOf : List Cond := .code yX3_bansOf cX3_bansOf 2 (some .int) :: ([.fieldLink RX3 40 "FableIndexModel" "thrown" "I", .methodLink RX3 62 yX3_isValley, .static yX3_isValley, .initialized RX3, .code yX3_isValley cX3_isValley 1 (some .boolean), .methodLink RX3 47 yX3_isIn, .static yX3_isIn, .code yX3_isIn cX3_isIn 3 (some .boolean), .methodLink RX3 126 yX3_bansIn, .instanceMethod yX3_bansIn, .selects RX3 yX3_bansIn yX3_bansIn, .code yX3_bansIn cX3_bansIn 2 (some .int), .fieldLink RX3 25 "FableIndexModel" "morals" "[I", .fieldLink RX3 28 "FableIndexModel" "bans" "[I", .methodLink RX3 79 yX3_many, .static yX3_many, .code yX3_many cX3_many 3 (some .int), .methodLink RX3 65 yX3_fail, .instanceMethod yX3_fail, .selects RX3 yX3_fail yX3_fail, .code yX3_fail cX3_fail 2 (some .int)] ++ wsX30)
def wsX3_fables : List Cond := .code yX3_fables cX3_fables 1 (some .int) :: ([.fieldLink RX3 40 "FableIndexModel" "thrown" "I", .fieldLink RX3 44 "FableIndexModel" "fables" "I"] ++ wsX30)
def wsX3_season : List Cond := .code yX3_season cX3_season 1 (some .int) :: ([.fieldLink RX3 40 "FableIndexModel" "thrown" "I", .fieldLink RX3 111 "FableIndexModel" "season" "I"] ++ wsX30)
def wsX3_tellings : List Cond := .code yX3_tellings cX3_tellings 1 (some .int) :: ([.fieldLink RX3 40 "FableIndexModel" "thrown" "I", .methodLink RX3 114 yX3_all, .instanceMethod yX3_all, .selects RX3 yX3_all yX3_all, .initialized RX3, .code yX3_all cX3_all 6 (some .int), .fieldLink RX3 22 "FableIndexModel" "told" "[I", .methodLink RX3 79 yX3_many, .static yX3_many, .code yX3_many cX3_many 3 (some .int)] ++ wsX30)
def wsX3_silenced : List Cond := .code yX3_silenced cX3_silenced 1 (some .int) :: ([.fieldLink RX3 40 "FableIndexModel" "thrown" "I", .fieldLink RX3 104 "FableIndexModel" "silenced" "I"] ++ wsX30)
def wsX3_fablesWithMoral : List Cond := .code yX3_fablesWithMoral cX3_fablesWithMoral 4 (some .int) :: ([.fieldLink RX3 40 "FableIndexModel" "thrown" "I", .fieldLink RX3 44 "FableIndexModel" "fables" "I", .fieldLink RX3 9 "FableIndexModel" "moral" "[I", .methodLink RX3 55 yX3_isMoral, .static yX3_isMoral, .initialized RX3, .code yX3_isMoral cX3_isMoral 1 (some .boolean), .methodLink RX3 47 yX3_isIn, .static yX3_isIn, .code yX3_isIn cX3_isIn 3 (some .boolean), .methodLink RX3 65 yX3_fail, .instanceMethod yX3_fail, .selects RX3 yX3_fail yX3_fail, .code yX3_fail cX3_fail 2 (some .int)] ++ wsX30)
def wsX3_fablesWithBeast : List Cond := .code yX3_fablesWithBeast cX3_fablesWithBeast 4 (some .int) :: ([.fieldLink RX3 40 "FableIndexModel" "thrown" "I", .fieldLink RX3 44 "FableIndexModel" "fables" "I", .fieldLink RX3 13 "FableIndexModel" "beasts" "[I", .methodLink RX3 59 yX3_isBeast, .static yX3_isBeast, .initialized RX3, .code yX3_isBeast cX3_isBeast 1 (some .boolean), .methodLink RX3 47 yX3_isIn, .static yX3_isIn, .code yX3_isIn cX3_isIn 3 (some .boolean), .methodLink RX3 65 yX3_fail, .instanceMethod yX3_fail, .selects RX3 yX3_fail yX3_fail, .code yX3_fail cX3_fail 2 (some .int), .methodLink RX3 51 yX3_has, .static yX3_has, .code yX3_has cX3_has 2 (some .boolean)] ++ wsX30)
def wsX3_favourite : List Cond := .code yX3_favourite cX3_favourite 7 (some .int) :: ([.fieldLink RX3 44 "FableIndexModel" "fables" "I", .fieldLink RX3 9 "FableIndexModel" "moral" "[I", .fieldLink RX3 13 "FableIndexModel" "beasts" "[I", .methodLink RX3 51 yX3_has, .static yX3_has, .initialized RX3, .code yX3_has cX3_has 2 (some .boolean), .methodLink RX3 91 yX3_placesOf, .instanceMethod yX3_placesOf, .selects RX3 yX3_placesOf yX3_placesOf, .code yX3_placesOf cX3_placesOf 4 (some .int), .fieldLink RX3 22 "FableIndexModel" "told" "[I"] ++ wsX30)
def wsX3_favouriteMoral : List Cond := .code yX3_favouriteMoral cX3_favouriteMoral 1 (some .int) :: ([.fieldLink RX3 40 "FableIndexModel" "thrown" "I", .methodLink RX3 129 yX3_favourite, .instanceMethod yX3_favourite, .selects RX3 yX3_favourite yX3_favourite, .initialized RX3, .code yX3_favourite cX3_favourite 7 (some .int), .fieldLink RX3 44 "FableIndexModel" "fables" "I", .fieldLink RX3 9 "FableIndexModel" "moral" "[I", .fieldLink RX3 13 "FableIndexModel" "beasts" "[I", .methodLink RX3 51 yX3_has, .static yX3_has, .code yX3_has cX3_has 2 (some .boolean), .methodLink RX3 91 yX3_placesOf, .instanceMethod yX3_placesOf, .selects RX3 yX3_placesOf yX3_placesOf, .code yX3_placesOf cX3_placesOf 4 (some .int), .fieldLink RX3 22 "FableIndexModel" "told" "[I"] ++ wsX30)
def wsX3_favouriteBeast : List Cond := .code yX3_favouriteBeast cX3_favouriteBeast 1 (some .int) :: ([.fieldLink RX3 40 "FableIndexModel" "thrown" "I", .methodLink RX3 129 yX3_favourite, .instanceMethod yX3_favourite, .selects RX3 yX3_favourite yX3_favourite, .initialized RX3, .code yX3_favourite cX3_favourite 7 (some .int), .fieldLink RX3 44 "FableIndexModel" "fables" "I", .fieldLink RX3 9 "FableIndexModel" "moral" "[I", .fieldLink RX3 13 "FableIndexModel" "beasts" "[I", .methodLink RX3 51 yX3_has, .static yX3_has, .code yX3_has cX3_has 2 (some .boolean), .methodLink RX3 91 yX3_placesOf, .instanceMethod yX3_placesOf, .selects RX3 yX3_placesOf yX3_placesOf, .code yX3_placesOf cX3_placesOf 4 (some .int), .fieldLink RX3 22 "FableIndexModel" "told" "[I"] ++ wsX30)
def wsX3_keep : List Cond := .code yX3_keep cX3_keep 1 none :: ([.fieldLink RX3 22 "FableIndexModel" "told" "[I", .fieldLink RX3 37 "FableIndexModel" "kept" "[I", .methodLink RX3 98 arraycopyName, .native arraycopyName, .static arraycopyName, .initialized "java/lang/System"] ++ wsX30)
def wsX3_bringBack : List Cond := .code yX3_bringBack cX3_bringBack 1 none :: ([.fieldLink RX3 37 "FableIndexModel" "kept" "[I", .fieldLink RX3 22 "FableIndexModel" "told" "[I", .methodLink RX3 98 arraycopyName, .native arraycopyName, .static arraycopyName, .initialized "java/lang/System"] ++ wsX30)
def wsX3_seasonsUntil_r1 : List Cond := [Cond.fieldLink RX3 40 "FableIndexModel" "thrown" "I", Cond.fieldLink RX3 22 "FableIndexModel" "told" "[I", Cond.methodLink RX3 85 yX3_isPlace, Cond.instanceMethod yX3_isPlace, Cond.selects RX3 yX3_isPlace yX3_isPlace, Cond.initialized RX3, Cond.code yX3_isPlace cX3_isPlace 3 (some .boolean), Cond.methodLink RX3 73 yX3_isFable, Cond.instanceMethod yX3_isFable, Cond.selects RX3 yX3_isFable yX3_isFable, Cond.code yX3_isFable cX3_isFable 2 (some .boolean), Cond.fieldLink RX3 44 "FableIndexModel" "fables" "I", Cond.methodLink RX3 47 yX3_isIn, Cond.static yX3_isIn, Cond.code yX3_isIn cX3_isIn 3 (some .boolean), Cond.methodLink RX3 62 yX3_isValley, Cond.static yX3_isValley, Cond.code yX3_isValley cX3_isValley 1 (some .boolean), Cond.methodLink RX3 65 yX3_fail, Cond.instanceMethod yX3_fail, Cond.selects RX3 yX3_fail yX3_fail, Cond.code yX3_fail cX3_fail 2 (some .int), Cond.methodLink RX3 133 yX3_keep, Cond.instanceMethod yX3_keep]
def wsX3_seasonsUntil_r2 : List Cond := [Cond.selects RX3 yX3_keep yX3_keep, Cond.code yX3_keep cX3_keep 1 none, Cond.fieldLink RX3 37 "FableIndexModel" "kept" "[I", Cond.methodLink RX3 98 arraycopyName, Cond.native arraycopyName, Cond.static arraycopyName, Cond.initialized "java/lang/System", Cond.methodLink RX3 51 yX3_has, Cond.static yX3_has, Cond.code yX3_has cX3_has 2 (some .boolean), Cond.methodLink RX3 107 yX3_seasonOn, Cond.instanceMethod yX3_seasonOn, Cond.selects RX3 yX3_seasonOn yX3_seasonOn, Cond.code yX3_seasonOn cX3_seasonOn 6 (some .int), Cond.fieldLink RX3 34 "FableIndexModel" "next" "[I", Cond.fieldLink RX3 31 "FableIndexModel" "passes" "[I", Cond.methodLink RX3 88 yX3_banned, Cond.instanceMethod yX3_banned, Cond.selects RX3 yX3_banned yX3_banned, Cond.code yX3_banned cX3_banned 3 (some .boolean), Cond.fieldLink RX3 25 "FableIndexModel" "morals" "[I", Cond.fieldLink RX3 9 "FableIndexModel" "moral" "[I", Cond.fieldLink RX3 28 "FableIndexModel" "bans" "[I", Cond.fieldLink RX3 13 "FableIndexModel" "beasts" "[I"]
def wsX3_seasonsUntil_r3 : List Cond := [Cond.methodLink RX3 94 yX3_comes, Cond.instanceMethod yX3_comes, Cond.selects RX3 yX3_comes yX3_comes, Cond.code yX3_comes cX3_comes 4 (some .int), Cond.fieldLink RX3 19 "FableIndexModel" "parent" "[I", Cond.methodLink RX3 136 yX3_bringBack, Cond.instanceMethod yX3_bringBack, Cond.selects RX3 yX3_bringBack yX3_bringBack, Cond.code yX3_bringBack cX3_bringBack 1 none]
def wsX3_seasonsUntil : List Cond := .code yX3_seasonsUntil cX3_seasonsUntil 4 (some .int) :: ((wsX3_seasonsUntil_r1 ++ (wsX3_seasonsUntil_r2 ++ wsX3_seasonsUntil_r3)) ++ wsX30)
def wsX3_after_r1 : List Cond := [Cond.methodLink RX3 133 yX3_keep, Cond.instanceMethod yX3_keep, Cond.selects RX3 yX3_keep yX3_keep, Cond.initialized RX3, Cond.code yX3_keep cX3_keep 1 none, Cond.fieldLink RX3 22 "FableIndexModel" "told" "[I", Cond.fieldLink RX3 37 "FableIndexModel" "kept" "[I", Cond.methodLink RX3 98 arraycopyName, Cond.native arraycopyName, Cond.static arraycopyName, Cond.initialized "java/lang/System", Cond.methodLink RX3 107 yX3_seasonOn, Cond.instanceMethod yX3_seasonOn, Cond.selects RX3 yX3_seasonOn yX3_seasonOn, Cond.code yX3_seasonOn cX3_seasonOn 6 (some .int), Cond.fieldLink RX3 44 "FableIndexModel" "fables" "I", Cond.fieldLink RX3 34 "FableIndexModel" "next" "[I", Cond.fieldLink RX3 31 "FableIndexModel" "passes" "[I", Cond.methodLink RX3 51 yX3_has, Cond.static yX3_has, Cond.code yX3_has cX3_has 2 (some .boolean), Cond.methodLink RX3 88 yX3_banned, Cond.instanceMethod yX3_banned, Cond.selects RX3 yX3_banned yX3_banned]
def wsX3_after_r2 : List Cond := [Cond.code yX3_banned cX3_banned 3 (some .boolean), Cond.fieldLink RX3 25 "FableIndexModel" "morals" "[I", Cond.fieldLink RX3 9 "FableIndexModel" "moral" "[I", Cond.fieldLink RX3 28 "FableIndexModel" "bans" "[I", Cond.fieldLink RX3 13 "FableIndexModel" "beasts" "[I", Cond.methodLink RX3 94 yX3_comes, Cond.instanceMethod yX3_comes, Cond.selects RX3 yX3_comes yX3_comes, Cond.code yX3_comes cX3_comes 4 (some .int), Cond.fieldLink RX3 19 "FableIndexModel" "parent" "[I", Cond.methodLink RX3 114 yX3_all, Cond.instanceMethod yX3_all, Cond.selects RX3 yX3_all yX3_all, Cond.code yX3_all cX3_all 6 (some .int), Cond.methodLink RX3 79 yX3_many, Cond.static yX3_many, Cond.code yX3_many cX3_many 3 (some .int), Cond.methodLink RX3 136 yX3_bringBack, Cond.instanceMethod yX3_bringBack, Cond.selects RX3 yX3_bringBack yX3_bringBack, Cond.code yX3_bringBack cX3_bringBack 1 none]
def wsX3_after : List Cond := .code yX3_after cX3_after 3 (some .int) :: ((wsX3_after_r1 ++ wsX3_after_r2) ++ wsX30)
def wsX3_tellingsAfter_r1 : List Cond := [Cond.fieldLink RX3 40 "FableIndexModel" "thrown" "I", Cond.methodLink RX3 47 yX3_isIn, Cond.static yX3_isIn, Cond.initialized RX3, Cond.code yX3_isIn cX3_isIn 3 (some .boolean), Cond.methodLink RX3 139 yX3_after, Cond.instanceMethod yX3_after, Cond.selects RX3 yX3_after yX3_after, Cond.code yX3_after cX3_after 3 (some .int), Cond.methodLink RX3 133 yX3_keep, Cond.instanceMethod yX3_keep, Cond.selects RX3 yX3_keep yX3_keep, Cond.code yX3_keep cX3_keep 1 none, Cond.fieldLink RX3 22 "FableIndexModel" "told" "[I", Cond.fieldLink RX3 37 "FableIndexModel" "kept" "[I", Cond.methodLink RX3 98 arraycopyName, Cond.native arraycopyName, Cond.static arraycopyName, Cond.initialized "java/lang/System", Cond.methodLink RX3 107 yX3_seasonOn, Cond.instanceMethod yX3_seasonOn, Cond.selects RX3 yX3_seasonOn yX3_seasonOn, Cond.code yX3_seasonOn cX3_seasonOn 6 (some .int), Cond.fieldLink RX3 44 "FableIndexModel" "fables" "I"]
def wsX3_tellingsAfter_r2 : List Cond := [Cond.fieldLink RX3 34 "FableIndexModel" "next" "[I", Cond.fieldLink RX3 31 "FableIndexModel" "passes" "[I", Cond.methodLink RX3 51 yX3_has, Cond.static yX3_has, Cond.code yX3_has cX3_has 2 (some .boolean), Cond.methodLink RX3 88 yX3_banned, Cond.instanceMethod yX3_banned, Cond.selects RX3 yX3_banned yX3_banned, Cond.code yX3_banned cX3_banned 3 (some .boolean), Cond.fieldLink RX3 25 "FableIndexModel" "morals" "[I", Cond.fieldLink RX3 9 "FableIndexModel" "moral" "[I", Cond.fieldLink RX3 28 "FableIndexModel" "bans" "[I", Cond.fieldLink RX3 13 "FableIndexModel" "beasts" "[I", Cond.methodLink RX3 94 yX3_comes, Cond.instanceMethod yX3_comes, Cond.selects RX3 yX3_comes yX3_comes, Cond.code yX3_comes cX3_comes 4 (some .int), Cond.fieldLink RX3 19 "FableIndexModel" "parent" "[I", Cond.methodLink RX3 114 yX3_all, Cond.instanceMethod yX3_all, Cond.selects RX3 yX3_all yX3_all, Cond.code yX3_all cX3_all 6 (some .int), Cond.methodLink RX3 79 yX3_many, Cond.static yX3_many]
def wsX3_tellingsAfter_r3 : List Cond := [Cond.code yX3_many cX3_many 3 (some .int), Cond.methodLink RX3 136 yX3_bringBack, Cond.instanceMethod yX3_bringBack, Cond.selects RX3 yX3_bringBack yX3_bringBack, Cond.code yX3_bringBack cX3_bringBack 1 none, Cond.methodLink RX3 65 yX3_fail, Cond.instanceMethod yX3_fail, Cond.selects RX3 yX3_fail yX3_fail, Cond.code yX3_fail cX3_fail 2 (some .int)]
def wsX3_tellingsAfter : List Cond := .code yX3_tellingsAfter cX3_tellingsAfter 2 (some .int) :: ((wsX3_tellingsAfter_r1 ++ (wsX3_tellingsAfter_r2 ++ wsX3_tellingsAfter_r3)) ++ wsX30)
def wsX3_bestPass_r1 : List Cond := [Cond.fieldLink RX3 40 "FableIndexModel" "thrown" "I", Cond.fieldLink RX3 31 "FableIndexModel" "passes" "[I", Cond.methodLink RX3 47 yX3_isIn, Cond.static yX3_isIn, Cond.initialized RX3, Cond.code yX3_isIn cX3_isIn 3 (some .boolean), Cond.methodLink RX3 65 yX3_fail, Cond.instanceMethod yX3_fail, Cond.selects RX3 yX3_fail yX3_fail, Cond.code yX3_fail cX3_fail 2 (some .int), Cond.methodLink RX3 139 yX3_after, Cond.instanceMethod yX3_after, Cond.selects RX3 yX3_after yX3_after, Cond.code yX3_after cX3_after 3 (some .int), Cond.methodLink RX3 133 yX3_keep, Cond.instanceMethod yX3_keep, Cond.selects RX3 yX3_keep yX3_keep, Cond.code yX3_keep cX3_keep 1 none, Cond.fieldLink RX3 22 "FableIndexModel" "told" "[I", Cond.fieldLink RX3 37 "FableIndexModel" "kept" "[I", Cond.methodLink RX3 98 arraycopyName, Cond.native arraycopyName, Cond.static arraycopyName, Cond.initialized "java/lang/System"]
def wsX3_bestPass_r2 : List Cond := [Cond.methodLink RX3 107 yX3_seasonOn, Cond.instanceMethod yX3_seasonOn, Cond.selects RX3 yX3_seasonOn yX3_seasonOn, Cond.code yX3_seasonOn cX3_seasonOn 6 (some .int), Cond.fieldLink RX3 44 "FableIndexModel" "fables" "I", Cond.fieldLink RX3 34 "FableIndexModel" "next" "[I", Cond.methodLink RX3 51 yX3_has, Cond.static yX3_has, Cond.code yX3_has cX3_has 2 (some .boolean), Cond.methodLink RX3 88 yX3_banned, Cond.instanceMethod yX3_banned, Cond.selects RX3 yX3_banned yX3_banned, Cond.code yX3_banned cX3_banned 3 (some .boolean), Cond.fieldLink RX3 25 "FableIndexModel" "morals" "[I", Cond.fieldLink RX3 9 "FableIndexModel" "moral" "[I", Cond.fieldLink RX3 28 "FableIndexModel" "bans" "[I", Cond.fieldLink RX3 13 "FableIndexModel" "beasts" "[I", Cond.methodLink RX3 94 yX3_comes, Cond.instanceMethod yX3_comes, Cond.selects RX3 yX3_comes yX3_comes, Cond.code yX3_comes cX3_comes 4 (some .int), Cond.fieldLink RX3 19 "FableIndexModel" "parent" "[I", Cond.methodLink RX3 114 yX3_all, Cond.instanceMethod yX3_all]
def wsX3_bestPass_r3 : List Cond := [Cond.selects RX3 yX3_all yX3_all, Cond.code yX3_all cX3_all 6 (some .int), Cond.methodLink RX3 79 yX3_many, Cond.static yX3_many, Cond.code yX3_many cX3_many 3 (some .int), Cond.methodLink RX3 136 yX3_bringBack, Cond.instanceMethod yX3_bringBack, Cond.selects RX3 yX3_bringBack yX3_bringBack, Cond.code yX3_bringBack cX3_bringBack 1 none]
def wsX3_bestPass : List Cond := .code yX3_bestPass cX3_bestPass 7 (some .int) :: ((wsX3_bestPass_r1 ++ (wsX3_bestPass_r2 ++ wsX3_bestPass_r3)) ++ wsX30)
def wsX3_meanBeasts : List Cond := .code yX3_meanBeasts cX3_meanBeasts 3 (some .double) :: ([.fieldLink RX3 40 "FableIndexModel" "thrown" "I", .fieldLink RX3 44 "FableIndexModel" "fables" "I", .fieldLink RX3 13 "FableIndexModel" "beasts" "[I", .methodLink RX3 79 yX3_many, .static yX3_many, .initialized RX3, .code yX3_many cX3_many 3 (some .int)] ++ wsX30)
def wsX3_one : List Cond := .code yX3_one cX3_one 1 (some .int) :: ([])
def wsX3_digest_r1 : List Cond := [Cond.fieldLink RX3 40 "FableIndexModel" "thrown" "I", Cond.arrayClass .int, Cond.fieldLink RX3 44 "FableIndexModel" "fables" "I", Cond.fieldLink RX3 111 "FableIndexModel" "season" "I", Cond.fieldLink RX3 104 "FableIndexModel" "silenced" "I", Cond.constantLong RX3 142 (1861), Cond.constantLong RX3 144 (31), Cond.fieldLink RX3 9 "FableIndexModel" "moral" "[I", Cond.fieldLink RX3 13 "FableIndexModel" "beasts" "[I", Cond.fieldLink RX3 16 "FableIndexModel" "home" "[I", Cond.fieldLink RX3 19 "FableIndexModel" "parent" "[I", Cond.fieldLink RX3 22 "FableIndexModel" "told" "[I", Cond.fieldLink RX3 31 "FableIndexModel" "passes" "[I", Cond.methodLink RX3 114 yX3_all, Cond.instanceMethod yX3_all, Cond.selects RX3 yX3_all yX3_all, Cond.initialized RX3, Cond.code yX3_all cX3_all 6 (some .int), Cond.methodLink RX3 79 yX3_many, Cond.static yX3_many, Cond.code yX3_many cX3_many 3 (some .int), Cond.methodLink RX3 129 yX3_favourite, Cond.instanceMethod yX3_favourite, Cond.selects RX3 yX3_favourite yX3_favourite]
def wsX3_digest_r2 : List Cond := [Cond.code yX3_favourite cX3_favourite 7 (some .int), Cond.methodLink RX3 51 yX3_has, Cond.static yX3_has, Cond.code yX3_has cX3_has 2 (some .boolean), Cond.methodLink RX3 91 yX3_placesOf, Cond.instanceMethod yX3_placesOf, Cond.selects RX3 yX3_placesOf yX3_placesOf, Cond.code yX3_placesOf cX3_placesOf 4 (some .int), Cond.methodLink RX3 76 yX3_children, Cond.instanceMethod yX3_children, Cond.selects RX3 yX3_children yX3_children, Cond.code yX3_children cX3_children 4 (some .int), Cond.methodLink RX3 146 yX3_one, Cond.static yX3_one, Cond.code yX3_one cX3_one 1 (some .int), Cond.methodLink RX3 88 yX3_banned, Cond.instanceMethod yX3_banned, Cond.selects RX3 yX3_banned yX3_banned, Cond.code yX3_banned cX3_banned 3 (some .boolean), Cond.fieldLink RX3 25 "FableIndexModel" "morals" "[I", Cond.fieldLink RX3 28 "FableIndexModel" "bans" "[I", Cond.methodLink RX3 123 yX3_allowed, Cond.instanceMethod yX3_allowed, Cond.selects RX3 yX3_allowed yX3_allowed]
def wsX3_digest_r3 : List Cond := [Cond.code yX3_allowed cX3_allowed 4 (some .int), Cond.methodLink RX3 126 yX3_bansIn, Cond.instanceMethod yX3_bansIn, Cond.selects RX3 yX3_bansIn yX3_bansIn, Cond.code yX3_bansIn cX3_bansIn 2 (some .int)]
def wsX3_digest : List Cond := .code yX3_digest cX3_digest 10 (some .long) :: ((wsX3_digest_r1 ++ (wsX3_digest_r2 ++ wsX3_digest_r3)) ++ wsX30)
def wsL_addFable_r1 : List Cond := [Cond.classLink RL 13 "java/lang/IndexOutOfBoundsException", Cond.classLink RL 15 "java/lang/IllegalStateException", Cond.methodLink RL 7 yX2_addFable, Cond.instanceMethod yX2_addFable, Cond.selects RX2 yX2_addFable yX2_addFable, Cond.initialized RX2, Cond.code yX2_addFable cX2_addFable 4 (some .int), Cond.fieldLink RX2 10 "FableIndex" "book" "LFableIndex$Book;", Cond.methodLink RX2 30 yX2_needMoral, Cond.static yX2_needMoral, Cond.code yX2_needMoral cX2_needMoral 1 none, Cond.classLink RX2 238 "java/lang/IndexOutOfBoundsException", Cond.initialized "java/lang/IndexOutOfBoundsException", Cond.methodLink RX2 34 yX2_needBeast, Cond.static yX2_needBeast, Cond.code yX2_needBeast cX2_needBeast 1 none, Cond.methodLink RX2 37 yX2_needValley, Cond.static yX2_needValley, Cond.code yX2_needValley cX2_needValley 1 none, Cond.methodLink RX2 40 yX2_needFreePage, Cond.instanceMethod yX2_needFreePage, Cond.selects RX2 yX2_needFreePage yX2_needFreePage, Cond.code yX2_needFreePage cX2_needFreePage 1 none, Cond.classLink RX2 58 "java/lang/IllegalStateException"]
def wsL_addFable_r2 : List Cond := [Cond.initialized "java/lang/IllegalStateException", Cond.fieldLink RX2 146 "FableIndex$Book" "count" "I", Cond.methodLink RX2 43 yX0_write, Cond.instanceMethod yX0_write, Cond.selects RX0 yX0_write yX0_write, Cond.initialized RX0, Cond.code yX0_write cX0_write 6 (some .int), Cond.fieldLink RX0 9 "FableIndex$Book" "count" "I", Cond.fieldLink RX0 15 "FableIndex$Book" "moral" "[I", Cond.fieldLink RX0 19 "FableIndex$Book" "beasts" "[I", Cond.fieldLink RX0 22 "FableIndex$Book" "home" "[I", Cond.fieldLink RX0 25 "FableIndex$Book" "parent" "[I", Cond.fieldLink RX0 28 "FableIndex$Book" "variants" "[I", Cond.fieldLink RX0 31 "FableIndex$Book" "ancestors" "[I"]
def wsL_addFable : List Cond := .codeWith yL_addFable cL_addFable 6 (some .int) [(0, 12, 15, 13), (0, 12, 19, 15)] :: ((wsL_addFable_r1 ++ wsL_addFable_r2) ++ wsX20 ++ wsX00 ++ (vx_atS RX2 242 "java/lang/IndexOutOfBoundsException" ["java/lang/RuntimeException", "java/lang/Exception"]).filter goodWord ++ (vx_atS RX2 62 "java/lang/IllegalStateException" ["java/lang/RuntimeException", "java/lang/Exception"]).filter goodWord)
def wsL_addBeast_r1 : List Cond := [Cond.classLink RL 13 "java/lang/IndexOutOfBoundsException", Cond.classLink RL 15 "java/lang/IllegalStateException", Cond.methodLink RL 17 yX2_addBeast, Cond.instanceMethod yX2_addBeast, Cond.selects RX2 yX2_addBeast yX2_addBeast, Cond.initialized RX2, Cond.code yX2_addBeast cX2_addBeast 3 (some .int), Cond.classLink RX2 58 "java/lang/IllegalStateException", Cond.initialized "java/lang/IllegalStateException", Cond.fieldLink RX2 10 "FableIndex" "book" "LFableIndex$Book;", Cond.fieldLink RX2 50 "FableIndex$Book" "beasts" "[I", Cond.fieldLink RX2 65 "FableIndex$Book" "variants" "[I", Cond.methodLink RX2 47 yX2_needFable, Cond.instanceMethod yX2_needFable, Cond.selects RX2 yX2_needFable yX2_needFable, Cond.code yX2_needFable cX2_needFable 2 none, Cond.classLink RX2 238 "java/lang/IndexOutOfBoundsException", Cond.initialized "java/lang/IndexOutOfBoundsException", Cond.fieldLink RX2 146 "FableIndex$Book" "count" "I", Cond.methodLink RX2 34 yX2_needBeast, Cond.static yX2_needBeast, Cond.code yX2_needBeast cX2_needBeast 1 none, Cond.methodLink RX2 54 yX2_has, Cond.static yX2_has]
def wsL_addBeast_r2 : List Cond := [Cond.code yX2_has cX2_has 2 (some .boolean), Cond.methodLink RX2 70 yX2_size, Cond.static yX2_size, Cond.code yX2_size cX2_size 1 (some .int), Cond.methodLink RX2 253 yJ6_bitCount_0f7a4, Cond.static yJ6_bitCount_0f7a4, Cond.initialized RJ6, Cond.code yJ6_bitCount_0f7a4 cJ6_bitCount_0f7a4 1 (some .int), Cond.constant RJ6 265 (1431655765), Cond.constant RJ6 266 (858993459), Cond.constant RJ6 267 (252645135)]
def wsL_addBeast : List Cond := .codeWith yL_addBeast cL_addBeast 5 (some .int) [(0, 10, 13, 13), (0, 10, 17, 15)] :: ((wsL_addBeast_r1 ++ wsL_addBeast_r2) ++ wsX20 ++ wsX00 ++ (vx_atS RX2 62 "java/lang/IllegalStateException" ["java/lang/RuntimeException", "java/lang/Exception"]).filter goodWord ++ (vx_atS RX2 242 "java/lang/IndexOutOfBoundsException" ["java/lang/RuntimeException", "java/lang/Exception"]).filter goodWord)
def wsL_addVariant_r1 : List Cond := [Cond.classLink RL 13 "java/lang/IndexOutOfBoundsException", Cond.classLink RL 15 "java/lang/IllegalStateException", Cond.methodLink RL 21 yX2_addVariant, Cond.instanceMethod yX2_addVariant, Cond.selects RX2 yX2_addVariant yX2_addVariant, Cond.initialized RX2, Cond.code yX2_addVariant cX2_addVariant 6 (some .int), Cond.classLink RX2 58 "java/lang/IllegalStateException", Cond.initialized "java/lang/IllegalStateException", Cond.fieldLink RX2 10 "FableIndex" "book" "LFableIndex$Book;", Cond.fieldLink RX2 50 "FableIndex$Book" "beasts" "[I", Cond.fieldLink RX2 78 "FableIndex$Book" "moral" "[I", Cond.methodLink RX2 47 yX2_needFable, Cond.instanceMethod yX2_needFable, Cond.selects RX2 yX2_needFable yX2_needFable, Cond.code yX2_needFable cX2_needFable 2 none, Cond.classLink RX2 238 "java/lang/IndexOutOfBoundsException", Cond.initialized "java/lang/IndexOutOfBoundsException", Cond.fieldLink RX2 146 "FableIndex$Book" "count" "I", Cond.methodLink RX2 34 yX2_needBeast, Cond.static yX2_needBeast, Cond.code yX2_needBeast cX2_needBeast 1 none, Cond.methodLink RX2 37 yX2_needValley, Cond.static yX2_needValley]
def wsL_addVariant_r2 : List Cond := [Cond.code yX2_needValley cX2_needValley 1 none, Cond.methodLink RX2 40 yX2_needFreePage, Cond.instanceMethod yX2_needFreePage, Cond.selects RX2 yX2_needFreePage yX2_needFreePage, Cond.code yX2_needFreePage cX2_needFreePage 1 none, Cond.methodLink RX2 54 yX2_has, Cond.static yX2_has, Cond.code yX2_has cX2_has 2 (some .boolean), Cond.methodLink RX2 81 yX2_turned, Cond.static yX2_turned, Cond.code yX2_turned cX2_turned 2 (some .int), Cond.methodLink RX2 43 yX0_write, Cond.instanceMethod yX0_write, Cond.selects RX0 yX0_write yX0_write, Cond.initialized RX0, Cond.code yX0_write cX0_write 6 (some .int), Cond.fieldLink RX0 9 "FableIndex$Book" "count" "I", Cond.fieldLink RX0 15 "FableIndex$Book" "moral" "[I", Cond.fieldLink RX0 19 "FableIndex$Book" "beasts" "[I", Cond.fieldLink RX0 22 "FableIndex$Book" "home" "[I", Cond.fieldLink RX0 25 "FableIndex$Book" "parent" "[I", Cond.fieldLink RX0 28 "FableIndex$Book" "variants" "[I", Cond.fieldLink RX0 31 "FableIndex$Book" "ancestors" "[I"]
def wsL_addVariant : List Cond := .codeWith yL_addVariant cL_addVariant 7 (some .int) [(0, 14, 17, 13), (0, 14, 21, 15)] :: ((wsL_addVariant_r1 ++ wsL_addVariant_r2) ++ wsX20 ++ wsX00 ++ (vx_atS RX2 62 "java/lang/IllegalStateException" ["java/lang/RuntimeException", "java/lang/Exception"]).filter goodWord ++ (vx_atS RX2 242 "java/lang/IndexOutOfBoundsException" ["java/lang/RuntimeException", "java/lang/Exception"]).filter goodWord)
def wsL_turnPass_r1 : List Cond := [Cond.classLink RL 13 "java/lang/IndexOutOfBoundsException", Cond.classLink RL 29 "java/lang/IllegalArgumentException", Cond.methodLink RL 25 yX2_turnPass, Cond.instanceMethod yX2_turnPass, Cond.selects RX2 yX2_turnPass yX2_turnPass, Cond.initialized RX2, Cond.code yX2_turnPass cX2_turnPass 3 (some .boolean), Cond.classLink RX2 85 "java/lang/IllegalArgumentException", Cond.initialized "java/lang/IllegalArgumentException", Cond.fieldLink RX2 19 "FableIndex" "land" "LFableIndex$Land;", Cond.fieldLink RX2 94 "FableIndex$Land" "ways" "[I", Cond.methodLink RX2 37 yX2_needValley, Cond.static yX2_needValley, Cond.code yX2_needValley cX2_needValley 1 none, Cond.classLink RX2 238 "java/lang/IndexOutOfBoundsException", Cond.initialized "java/lang/IndexOutOfBoundsException", Cond.methodLink RX2 90 yX1_turnWay, Cond.instanceMethod yX1_turnWay, Cond.selects RX1 yX1_turnWay yX1_turnWay, Cond.initialized RX1, Cond.code yX1_turnWay cX1_turnWay 3 none, Cond.fieldLink RX1 9 "FableIndex$Land" "ways" "[I", Cond.static yX2_turned, Cond.code yX2_turned cX2_turned 2 (some .int)]
def wsL_turnPass_r2 : List Cond := [Cond.methodLink RX2 54 yX2_has, Cond.static yX2_has, Cond.code yX2_has cX2_has 2 (some .boolean)]
def wsL_turnPass : List Cond := .codeWith yL_turnPass cL_turnPass 5 (some .int) [(0, 17, 20, 13), (0, 17, 24, 29)] :: ((wsL_turnPass_r1 ++ wsL_turnPass_r2) ++ wsX20 ++ wsX10 ++ (vx_atS RX2 89 "java/lang/IllegalArgumentException" ["java/lang/RuntimeException", "java/lang/Exception"]).filter goodWord ++ (vx_atS RX2 242 "java/lang/IndexOutOfBoundsException" ["java/lang/RuntimeException", "java/lang/Exception"]).filter goodWord)
def wsL_turnMoral : List Cond := .codeWith yL_turnMoral cL_turnMoral 5 (some .int) [(0, 17, 20, 13)] :: ([.classLink RL 13 "java/lang/IndexOutOfBoundsException", .methodLink RL 31 yX2_turnMoral, .instanceMethod yX2_turnMoral, .selects RX2 yX2_turnMoral yX2_turnMoral, .initialized RX2, .code yX2_turnMoral cX2_turnMoral 3 (some .boolean), .fieldLink RX2 19 "FableIndex" "land" "LFableIndex$Land;", .fieldLink RX2 97 "FableIndex$Land" "bannedMorals" "[I", .methodLink RX2 37 yX2_needValley, .static yX2_needValley, .code yX2_needValley cX2_needValley 1 none, .classLink RX2 238 "java/lang/IndexOutOfBoundsException", .initialized "java/lang/IndexOutOfBoundsException", .methodLink RX2 30 yX2_needMoral, .static yX2_needMoral, .code yX2_needMoral cX2_needMoral 1 none, .methodLink RX2 81 yX2_turned, .static yX2_turned, .code yX2_turned cX2_turned 2 (some .int), .methodLink RX2 54 yX2_has, .static yX2_has, .code yX2_has cX2_has 2 (some .boolean)] ++ wsX20 ++ wsX10 ++ (vx_atS RX2 242 "java/lang/IndexOutOfBoundsException" ["java/lang/RuntimeException", "java/lang/Exception"]).filter goodWord)
def wsL_turnBeast : List Cond := .codeWith yL_turnBeast cL_turnBeast 5 (some .int) [(0, 17, 20, 13)] :: ([.classLink RL 13 "java/lang/IndexOutOfBoundsException", .methodLink RL 34 yX2_turnBeast, .instanceMethod yX2_turnBeast, .selects RX2 yX2_turnBeast yX2_turnBeast, .initialized RX2, .code yX2_turnBeast cX2_turnBeast 3 (some .boolean), .fieldLink RX2 19 "FableIndex" "land" "LFableIndex$Land;", .fieldLink RX2 100 "FableIndex$Land" "bannedBeasts" "[I", .methodLink RX2 37 yX2_needValley, .static yX2_needValley, .code yX2_needValley cX2_needValley 1 none, .classLink RX2 238 "java/lang/IndexOutOfBoundsException", .initialized "java/lang/IndexOutOfBoundsException", .methodLink RX2 34 yX2_needBeast, .static yX2_needBeast, .code yX2_needBeast cX2_needBeast 1 none, .methodLink RX2 81 yX2_turned, .static yX2_turned, .code yX2_turned cX2_turned 2 (some .int), .methodLink RX2 54 yX2_has, .static yX2_has, .code yX2_has cX2_has 2 (some .boolean)] ++ wsX20 ++ wsX10 ++ (vx_atS RX2 242 "java/lang/IndexOutOfBoundsException" ["java/lang/RuntimeException", "java/lang/Exception"]).filter goodWord)
def wsL_tell_r1 : List Cond := [Cond.classLink RL 13 "java/lang/IndexOutOfBoundsException", Cond.classLink RL 15 "java/lang/IllegalStateException", Cond.methodLink RL 37 yX2_tell, Cond.instanceMethod yX2_tell, Cond.selects RX2 yX2_tell yX2_tell, Cond.initialized RX2, Cond.code yX2_tell cX2_tell 3 (some .int), Cond.classLink RX2 58 "java/lang/IllegalStateException", Cond.initialized "java/lang/IllegalStateException", Cond.fieldLink RX2 19 "FableIndex" "land" "LFableIndex$Land;", Cond.fieldLink RX2 103 "FableIndex$Land" "told" "[I", Cond.fieldLink RX2 10 "FableIndex" "book" "LFableIndex$Book;", Cond.methodLink RX2 47 yX2_needFable, Cond.instanceMethod yX2_needFable, Cond.selects RX2 yX2_needFable yX2_needFable, Cond.code yX2_needFable cX2_needFable 2 none, Cond.classLink RX2 238 "java/lang/IndexOutOfBoundsException", Cond.initialized "java/lang/IndexOutOfBoundsException", Cond.fieldLink RX2 146 "FableIndex$Book" "count" "I", Cond.methodLink RX2 37 yX2_needValley, Cond.static yX2_needValley, Cond.code yX2_needValley cX2_needValley 1 none, Cond.methodLink RX2 54 yX2_has, Cond.static yX2_has]
def wsL_tell_r2 : List Cond := [Cond.code yX2_has cX2_has 2 (some .boolean), Cond.methodLink RX2 108 yX1_bans, Cond.instanceMethod yX1_bans, Cond.selects RX1 yX1_bans yX1_bans, Cond.initialized RX1, Cond.code yX1_bans cX1_bans 4 (some .boolean), Cond.fieldLink RX1 15 "FableIndex$Land" "bannedMorals" "[I", Cond.fieldLink RX1 38 "FableIndex$Book" "moral" "[I", Cond.fieldLink RX1 18 "FableIndex$Land" "bannedBeasts" "[I", Cond.fieldLink RX1 47 "FableIndex$Book" "beasts" "[I", Cond.methodLink RX2 114 yX1_count, Cond.instanceMethod yX1_count, Cond.selects RX1 yX1_count yX1_count, Cond.code yX1_count cX1_count 4 (some .int), Cond.fieldLink RX1 21 "FableIndex$Land" "told" "[I", Cond.static yX2_size, Cond.code yX2_size cX2_size 1 (some .int), Cond.methodLink RX2 253 yJ6_bitCount_0f7a4, Cond.static yJ6_bitCount_0f7a4, Cond.initialized RJ6, Cond.code yJ6_bitCount_0f7a4 cJ6_bitCount_0f7a4 1 (some .int), Cond.constant RJ6 265 (1431655765), Cond.constant RJ6 266 (858993459), Cond.constant RJ6 267 (252645135)]
def wsL_tell : List Cond := .codeWith yL_tell cL_tell 5 (some .int) [(0, 10, 13, 13), (0, 10, 17, 15)] :: ((wsL_tell_r1 ++ wsL_tell_r2) ++ wsX20 ++ wsX10 ++ wsX00 ++ (vx_atS RX2 62 "java/lang/IllegalStateException" ["java/lang/RuntimeException", "java/lang/Exception"]).filter goodWord ++ (vx_atS RX2 242 "java/lang/IndexOutOfBoundsException" ["java/lang/RuntimeException", "java/lang/Exception"]).filter goodWord)
def wsL_forget_r1 : List Cond := [Cond.classLink RL 13 "java/lang/IndexOutOfBoundsException", Cond.classLink RL 15 "java/lang/IllegalStateException", Cond.methodLink RL 40 yX2_forget, Cond.instanceMethod yX2_forget, Cond.selects RX2 yX2_forget yX2_forget, Cond.initialized RX2, Cond.code yX2_forget cX2_forget 3 (some .int), Cond.classLink RX2 58 "java/lang/IllegalStateException", Cond.initialized "java/lang/IllegalStateException", Cond.fieldLink RX2 19 "FableIndex" "land" "LFableIndex$Land;", Cond.fieldLink RX2 103 "FableIndex$Land" "told" "[I", Cond.methodLink RX2 47 yX2_needFable, Cond.instanceMethod yX2_needFable, Cond.selects RX2 yX2_needFable yX2_needFable, Cond.code yX2_needFable cX2_needFable 2 none, Cond.classLink RX2 238 "java/lang/IndexOutOfBoundsException", Cond.initialized "java/lang/IndexOutOfBoundsException", Cond.fieldLink RX2 10 "FableIndex" "book" "LFableIndex$Book;", Cond.fieldLink RX2 146 "FableIndex$Book" "count" "I", Cond.methodLink RX2 37 yX2_needValley, Cond.static yX2_needValley, Cond.code yX2_needValley cX2_needValley 1 none, Cond.methodLink RX2 54 yX2_has, Cond.static yX2_has]
def wsL_forget_r2 : List Cond := [Cond.code yX2_has cX2_has 2 (some .boolean), Cond.methodLink RX2 81 yX2_turned, Cond.static yX2_turned, Cond.code yX2_turned cX2_turned 2 (some .int), Cond.methodLink RX2 114 yX1_count, Cond.instanceMethod yX1_count, Cond.selects RX1 yX1_count yX1_count, Cond.initialized RX1, Cond.code yX1_count cX1_count 4 (some .int), Cond.fieldLink RX1 21 "FableIndex$Land" "told" "[I", Cond.static yX2_size, Cond.code yX2_size cX2_size 1 (some .int), Cond.methodLink RX2 253 yJ6_bitCount_0f7a4, Cond.static yJ6_bitCount_0f7a4, Cond.initialized RJ6, Cond.code yJ6_bitCount_0f7a4 cJ6_bitCount_0f7a4 1 (some .int), Cond.constant RJ6 265 (1431655765), Cond.constant RJ6 266 (858993459), Cond.constant RJ6 267 (252645135)]
def wsL_forget : List Cond := .codeWith yL_forget cL_forget 5 (some .int) [(0, 10, 13, 13), (0, 10, 17, 15)] :: ((wsL_forget_r1 ++ wsL_forget_r2) ++ wsX20 ++ wsX10 ++ wsX00 ++ (vx_atS RX2 62 "java/lang/IllegalStateException" ["java/lang/RuntimeException", "java/lang/Exception"]).filter goodWord ++ (vx_atS RX2 242 "java/lang/IndexOutOfBoundsException" ["java/lang/RuntimeException", "java/lang/Exception"]).filter goodWord)
def wsL_passSeasons_r1 : List Cond := [Cond.classLink RL 29 "java/lang/IllegalArgumentException", Cond.methodLink RL 43 yX2_passSeasons, Cond.instanceMethod yX2_passSeasons, Cond.selects RX2 yX2_passSeasons yX2_passSeasons, Cond.initialized RX2, Cond.code yX2_passSeasons cX2_passSeasons 2 (some .int), Cond.fieldLink RX2 19 "FableIndex" "land" "LFableIndex$Land;", Cond.fieldLink RX2 10 "FableIndex" "book" "LFableIndex$Book;", Cond.fieldLink RX2 26 "FableIndex" "season" "I", Cond.methodLink RX2 119 yX2_needSeasons, Cond.static yX2_needSeasons, Cond.code yX2_needSeasons cX2_needSeasons 2 none, Cond.classLink RX2 85 "java/lang/IllegalArgumentException", Cond.initialized "java/lang/IllegalArgumentException", Cond.methodLink RX2 122 yX1_live, Cond.instanceMethod yX1_live, Cond.selects RX1 yX1_live yX1_live, Cond.initialized RX1, Cond.code yX1_live cX1_live 5 none, Cond.fieldLink RX1 24 "FableIndex$Land" "allowed" "[I", Cond.methodLink RX1 61 yX1_welcome, Cond.instanceMethod yX1_welcome, Cond.selects RX1 yX1_welcome yX1_welcome, Cond.code yX1_welcome cX1_welcome 5 (some .int)]
def wsL_passSeasons_r2 : List Cond := [Cond.fieldLink RX1 50 "FableIndex$Book" "count" "I", Cond.methodLink RX1 53 yX1_bans, Cond.instanceMethod yX1_bans, Cond.selects RX1 yX1_bans yX1_bans, Cond.code yX1_bans cX1_bans 4 (some .boolean), Cond.fieldLink RX1 15 "FableIndex$Land" "bannedMorals" "[I", Cond.fieldLink RX1 38 "FableIndex$Book" "moral" "[I", Cond.fieldLink RX1 18 "FableIndex$Land" "bannedBeasts" "[I", Cond.fieldLink RX1 47 "FableIndex$Book" "beasts" "[I", Cond.static yX2_has, Cond.code yX2_has cX2_has 2 (some .boolean), Cond.methodLink RX1 65 yX1_hush, Cond.instanceMethod yX1_hush, Cond.selects RX1 yX1_hush yX1_hush, Cond.code yX1_hush cX1_hush 2 none, Cond.fieldLink RX1 27 "FableIndex$Land" "kept" "[I", Cond.fieldLink RX1 21 "FableIndex$Land" "told" "[I", Cond.fieldLink RX1 30 "FableIndex$Land" "hushed" "I", Cond.static yX2_size, Cond.code yX2_size cX2_size 1 (some .int), Cond.methodLink RX2 253 yJ6_bitCount_0f7a4, Cond.static yJ6_bitCount_0f7a4, Cond.initialized RJ6, Cond.code yJ6_bitCount_0f7a4 cJ6_bitCount_0f7a4 1 (some .int)]
def wsL_passSeasons_r3 : List Cond := [Cond.constant RJ6 265 (1431655765), Cond.constant RJ6 266 (858993459), Cond.constant RJ6 267 (252645135), Cond.methodLink RX1 68 yX1_spread, Cond.instanceMethod yX1_spread, Cond.selects RX1 yX1_spread yX1_spread, Cond.code yX1_spread cX1_spread 5 (some .boolean), Cond.methodLink RX1 72 yX1_arriving, Cond.instanceMethod yX1_arriving, Cond.selects RX1 yX1_arriving yX1_arriving, Cond.code yX1_arriving cX1_arriving 4 (some .int), Cond.fieldLink RX1 9 "FableIndex$Land" "ways" "[I", Cond.methodLink RX1 75 yX1_admitted, Cond.instanceMethod yX1_admitted, Cond.selects RX1 yX1_admitted yX1_admitted, Cond.code yX1_admitted cX1_admitted 7 (some .int), Cond.fieldLink RX1 79 "FableIndex$Book" "variants" "[I", Cond.static yX2_smallestAlone, Cond.code yX2_smallestAlone cX2_smallestAlone 1 (some .int), Cond.methodLink RX2 126 yX0_all, Cond.instanceMethod yX0_all, Cond.selects RX0 yX0_all yX0_all, Cond.initialized RX0, Cond.code yX0_all cX0_all 1 (some .int)]
def wsL_passSeasons_r4 : List Cond := [Cond.fieldLink RX0 9 "FableIndex$Book" "count" "I", Cond.methodLink RX2 114 yX1_count, Cond.instanceMethod yX1_count, Cond.selects RX1 yX1_count yX1_count, Cond.code yX1_count cX1_count 4 (some .int)]
def wsL_passSeasons : List Cond := .codeWith yL_passSeasons cL_passSeasons 4 (some .int) [(0, 9, 12, 29)] :: ((wsL_passSeasons_r1 ++ (wsL_passSeasons_r2 ++ (wsL_passSeasons_r3 ++ wsL_passSeasons_r4))) ++ wsX20 ++ wsX10 ++ wsX00 ++ (vx_atS RX2 89 "java/lang/IllegalArgumentException" ["java/lang/RuntimeException", "java/lang/Exception"]).filter goodWord)
def wsL_moralOf : List Cond := .codeWith yL_moralOf cL_moralOf 4 (some .int) [(0, 9, 12, 13)] :: ([.classLink RL 13 "java/lang/IndexOutOfBoundsException", .methodLink RL 47 yX2_moralOf, .instanceMethod yX2_moralOf, .selects RX2 yX2_moralOf yX2_moralOf, .initialized RX2, .code yX2_moralOf cX2_moralOf 2 (some .int), .fieldLink RX2 10 "FableIndex" "book" "LFableIndex$Book;", .fieldLink RX2 78 "FableIndex$Book" "moral" "[I", .methodLink RX2 47 yX2_needFable, .instanceMethod yX2_needFable, .selects RX2 yX2_needFable yX2_needFable, .code yX2_needFable cX2_needFable 2 none, .classLink RX2 238 "java/lang/IndexOutOfBoundsException", .initialized "java/lang/IndexOutOfBoundsException", .fieldLink RX2 146 "FableIndex$Book" "count" "I"] ++ wsX20 ++ wsX00 ++ (vx_atS RX2 242 "java/lang/IndexOutOfBoundsException" ["java/lang/RuntimeException", "java/lang/Exception"]).filter goodWord)
def wsL_beastsOf_r1 : List Cond := [Cond.classLink RL 13 "java/lang/IndexOutOfBoundsException", Cond.methodLink RL 50 yX2_beastsOf, Cond.instanceMethod yX2_beastsOf, Cond.selects RX2 yX2_beastsOf yX2_beastsOf, Cond.initialized RX2, Cond.code yX2_beastsOf cX2_beastsOf 2 (some .int), Cond.fieldLink RX2 10 "FableIndex" "book" "LFableIndex$Book;", Cond.fieldLink RX2 50 "FableIndex$Book" "beasts" "[I", Cond.methodLink RX2 47 yX2_needFable, Cond.instanceMethod yX2_needFable, Cond.selects RX2 yX2_needFable yX2_needFable, Cond.code yX2_needFable cX2_needFable 2 none, Cond.classLink RX2 238 "java/lang/IndexOutOfBoundsException", Cond.initialized "java/lang/IndexOutOfBoundsException", Cond.fieldLink RX2 146 "FableIndex$Book" "count" "I", Cond.methodLink RX2 70 yX2_size, Cond.static yX2_size, Cond.code yX2_size cX2_size 1 (some .int), Cond.methodLink RX2 253 yJ6_bitCount_0f7a4, Cond.static yJ6_bitCount_0f7a4, Cond.initialized RJ6, Cond.code yJ6_bitCount_0f7a4 cJ6_bitCount_0f7a4 1 (some .int), Cond.constant RJ6 265 (1431655765), Cond.constant RJ6 266 (858993459)]
def wsL_beastsOf_r2 : List Cond := [Cond.constant RJ6 267 (252645135)]
def wsL_beastsOf : List Cond := .codeWith yL_beastsOf cL_beastsOf 4 (some .int) [(0, 9, 12, 13)] :: ((wsL_beastsOf_r1 ++ wsL_beastsOf_r2) ++ wsX20 ++ wsX00 ++ (vx_atS RX2 242 "java/lang/IndexOutOfBoundsException" ["java/lang/RuntimeException", "java/lang/Exception"]).filter goodWord)
def wsL_hasBeast : List Cond := .codeWith yL_hasBeast cL_hasBeast 5 (some .int) [(0, 17, 20, 13)] :: ([.classLink RL 13 "java/lang/IndexOutOfBoundsException", .methodLink RL 53 yX2_hasBeast, .instanceMethod yX2_hasBeast, .selects RX2 yX2_hasBeast yX2_hasBeast, .initialized RX2, .code yX2_hasBeast cX2_hasBeast 3 (some .boolean), .fieldLink RX2 10 "FableIndex" "book" "LFableIndex$Book;", .fieldLink RX2 50 "FableIndex$Book" "beasts" "[I", .methodLink RX2 47 yX2_needFable, .instanceMethod yX2_needFable, .selects RX2 yX2_needFable yX2_needFable, .code yX2_needFable cX2_needFable 2 none, .classLink RX2 238 "java/lang/IndexOutOfBoundsException", .initialized "java/lang/IndexOutOfBoundsException", .fieldLink RX2 146 "FableIndex$Book" "count" "I", .methodLink RX2 34 yX2_needBeast, .static yX2_needBeast, .code yX2_needBeast cX2_needBeast 1 none, .methodLink RX2 54 yX2_has, .static yX2_has, .code yX2_has cX2_has 2 (some .boolean)] ++ wsX20 ++ wsX00 ++ (vx_atS RX2 242 "java/lang/IndexOutOfBoundsException" ["java/lang/RuntimeException", "java/lang/Exception"]).filter goodWord)
def wsL_homeOf : List Cond := .codeWith yL_homeOf cL_homeOf 4 (some .int) [(0, 9, 12, 13)] :: ([.classLink RL 13 "java/lang/IndexOutOfBoundsException", .methodLink RL 56 yX2_homeOf, .instanceMethod yX2_homeOf, .selects RX2 yX2_homeOf yX2_homeOf, .initialized RX2, .code yX2_homeOf cX2_homeOf 2 (some .int), .fieldLink RX2 10 "FableIndex" "book" "LFableIndex$Book;", .fieldLink RX2 130 "FableIndex$Book" "home" "[I", .methodLink RX2 47 yX2_needFable, .instanceMethod yX2_needFable, .selects RX2 yX2_needFable yX2_needFable, .code yX2_needFable cX2_needFable 2 none, .classLink RX2 238 "java/lang/IndexOutOfBoundsException", .initialized "java/lang/IndexOutOfBoundsException", .fieldLink RX2 146 "FableIndex$Book" "count" "I"] ++ wsX20 ++ wsX00 ++ (vx_atS RX2 242 "java/lang/IndexOutOfBoundsException" ["java/lang/RuntimeException", "java/lang/Exception"]).filter goodWord)
def wsL_parentOf : List Cond := .codeWith yL_parentOf cL_parentOf 4 (some .int) [(0, 9, 12, 13)] :: ([.classLink RL 13 "java/lang/IndexOutOfBoundsException", .methodLink RL 59 yX2_parentOf, .instanceMethod yX2_parentOf, .selects RX2 yX2_parentOf yX2_parentOf, .initialized RX2, .code yX2_parentOf cX2_parentOf 2 (some .int), .fieldLink RX2 10 "FableIndex" "book" "LFableIndex$Book;", .fieldLink RX2 133 "FableIndex$Book" "parent" "[I", .methodLink RX2 47 yX2_needFable, .instanceMethod yX2_needFable, .selects RX2 yX2_needFable yX2_needFable, .code yX2_needFable cX2_needFable 2 none, .classLink RX2 238 "java/lang/IndexOutOfBoundsException", .initialized "java/lang/IndexOutOfBoundsException", .fieldLink RX2 146 "FableIndex$Book" "count" "I"] ++ wsX20 ++ wsX00 ++ (vx_atS RX2 242 "java/lang/IndexOutOfBoundsException" ["java/lang/RuntimeException", "java/lang/Exception"]).filter goodWord)
def wsL_variantsOf_r1 : List Cond := [Cond.classLink RL 13 "java/lang/IndexOutOfBoundsException", Cond.methodLink RL 62 yX2_variantsOf, Cond.instanceMethod yX2_variantsOf, Cond.selects RX2 yX2_variantsOf yX2_variantsOf, Cond.initialized RX2, Cond.code yX2_variantsOf cX2_variantsOf 2 (some .int), Cond.fieldLink RX2 10 "FableIndex" "book" "LFableIndex$Book;", Cond.fieldLink RX2 65 "FableIndex$Book" "variants" "[I", Cond.methodLink RX2 47 yX2_needFable, Cond.instanceMethod yX2_needFable, Cond.selects RX2 yX2_needFable yX2_needFable, Cond.code yX2_needFable cX2_needFable 2 none, Cond.classLink RX2 238 "java/lang/IndexOutOfBoundsException", Cond.initialized "java/lang/IndexOutOfBoundsException", Cond.fieldLink RX2 146 "FableIndex$Book" "count" "I", Cond.methodLink RX2 70 yX2_size, Cond.static yX2_size, Cond.code yX2_size cX2_size 1 (some .int), Cond.methodLink RX2 253 yJ6_bitCount_0f7a4, Cond.static yJ6_bitCount_0f7a4, Cond.initialized RJ6, Cond.code yJ6_bitCount_0f7a4 cJ6_bitCount_0f7a4 1 (some .int), Cond.constant RJ6 265 (1431655765), Cond.constant RJ6 266 (858993459)]
def wsL_variantsOf_r2 : List Cond := [Cond.constant RJ6 267 (252645135)]
def wsL_variantsOf : List Cond := .codeWith yL_variantsOf cL_variantsOf 4 (some .int) [(0, 9, 12, 13)] :: ((wsL_variantsOf_r1 ++ wsL_variantsOf_r2) ++ wsX20 ++ wsX00 ++ (vx_atS RX2 242 "java/lang/IndexOutOfBoundsException" ["java/lang/RuntimeException", "java/lang/Exception"]).filter goodWord)
def wsL_valleysOf_r1 : List Cond := [Cond.classLink RL 13 "java/lang/IndexOutOfBoundsException", Cond.methodLink RL 65 yX2_valleysOf, Cond.instanceMethod yX2_valleysOf, Cond.selects RX2 yX2_valleysOf yX2_valleysOf, Cond.initialized RX2, Cond.code yX2_valleysOf cX2_valleysOf 2 (some .int), Cond.fieldLink RX2 19 "FableIndex" "land" "LFableIndex$Land;", Cond.methodLink RX2 47 yX2_needFable, Cond.instanceMethod yX2_needFable, Cond.selects RX2 yX2_needFable yX2_needFable, Cond.code yX2_needFable cX2_needFable 2 none, Cond.classLink RX2 238 "java/lang/IndexOutOfBoundsException", Cond.initialized "java/lang/IndexOutOfBoundsException", Cond.fieldLink RX2 10 "FableIndex" "book" "LFableIndex$Book;", Cond.fieldLink RX2 146 "FableIndex$Book" "count" "I", Cond.methodLink RX2 114 yX1_count, Cond.instanceMethod yX1_count, Cond.selects RX1 yX1_count yX1_count, Cond.initialized RX1, Cond.code yX1_count cX1_count 4 (some .int), Cond.fieldLink RX1 21 "FableIndex$Land" "told" "[I", Cond.static yX2_size, Cond.code yX2_size cX2_size 1 (some .int), Cond.methodLink RX2 253 yJ6_bitCount_0f7a4]
def wsL_valleysOf_r2 : List Cond := [Cond.static yJ6_bitCount_0f7a4, Cond.initialized RJ6, Cond.code yJ6_bitCount_0f7a4 cJ6_bitCount_0f7a4 1 (some .int), Cond.constant RJ6 265 (1431655765), Cond.constant RJ6 266 (858993459), Cond.constant RJ6 267 (252645135)]
def wsL_valleysOf : List Cond := .codeWith yL_valleysOf cL_valleysOf 4 (some .int) [(0, 9, 12, 13)] :: ((wsL_valleysOf_r1 ++ wsL_valleysOf_r2) ++ wsX20 ++ wsX00 ++ wsX10 ++ (vx_atS RX2 242 "java/lang/IndexOutOfBoundsException" ["java/lang/RuntimeException", "java/lang/Exception"]).filter goodWord)
def wsL_nearestAncestor : List Cond := .codeWith yL_nearestAncestor cL_nearestAncestor 5 (some .int) [(0, 10, 13, 13)] :: ([.classLink RL 13 "java/lang/IndexOutOfBoundsException", .methodLink RL 68 yX2_nearestAncestor, .instanceMethod yX2_nearestAncestor, .selects RX2 yX2_nearestAncestor yX2_nearestAncestor, .initialized RX2, .code yX2_nearestAncestor cX2_nearestAncestor 3 (some .int), .fieldLink RX2 10 "FableIndex" "book" "LFableIndex$Book;", .fieldLink RX2 136 "FableIndex$Book" "ancestors" "[I", .methodLink RX2 47 yX2_needFable, .instanceMethod yX2_needFable, .selects RX2 yX2_needFable yX2_needFable, .code yX2_needFable cX2_needFable 2 none, .classLink RX2 238 "java/lang/IndexOutOfBoundsException", .initialized "java/lang/IndexOutOfBoundsException", .fieldLink RX2 146 "FableIndex$Book" "count" "I", .methodLink RX2 139 yX2_greatest, .static yX2_greatest, .code yX2_greatest cX2_greatest 2 (some .int), .methodLink RX2 54 yX2_has, .static yX2_has, .code yX2_has cX2_has 2 (some .boolean)] ++ wsX20 ++ wsX00 ++ (vx_atS RX2 242 "java/lang/IndexOutOfBoundsException" ["java/lang/RuntimeException", "java/lang/Exception"]).filter goodWord)
def wsL_kinship_r1 : List Cond := [Cond.classLink RL 13 "java/lang/IndexOutOfBoundsException", Cond.methodLink RL 71 yX2_kinship, Cond.instanceMethod yX2_kinship, Cond.selects RX2 yX2_kinship yX2_kinship, Cond.initialized RX2, Cond.code yX2_kinship cX2_kinship 3 (some .int), Cond.fieldLink RX2 10 "FableIndex" "book" "LFableIndex$Book;", Cond.fieldLink RX2 136 "FableIndex$Book" "ancestors" "[I", Cond.methodLink RX2 47 yX2_needFable, Cond.instanceMethod yX2_needFable, Cond.selects RX2 yX2_needFable yX2_needFable, Cond.code yX2_needFable cX2_needFable 2 none, Cond.classLink RX2 238 "java/lang/IndexOutOfBoundsException", Cond.initialized "java/lang/IndexOutOfBoundsException", Cond.fieldLink RX2 146 "FableIndex$Book" "count" "I", Cond.methodLink RX2 70 yX2_size, Cond.static yX2_size, Cond.code yX2_size cX2_size 1 (some .int), Cond.methodLink RX2 253 yJ6_bitCount_0f7a4, Cond.static yJ6_bitCount_0f7a4, Cond.initialized RJ6, Cond.code yJ6_bitCount_0f7a4 cJ6_bitCount_0f7a4 1 (some .int), Cond.constant RJ6 265 (1431655765), Cond.constant RJ6 266 (858993459)]
def wsL_kinship_r2 : List Cond := [Cond.constant RJ6 267 (252645135)]
def wsL_kinship : List Cond := .codeWith yL_kinship cL_kinship 5 (some .int) [(0, 10, 13, 13)] :: ((wsL_kinship_r1 ++ wsL_kinship_r2) ++ wsX20 ++ wsX00 ++ (vx_atS RX2 242 "java/lang/IndexOutOfBoundsException" ["java/lang/RuntimeException", "java/lang/Exception"]).filter goodWord)
def wsL_sharedBeasts_r1 : List Cond := [Cond.classLink RL 13 "java/lang/IndexOutOfBoundsException", Cond.methodLink RL 74 yX2_sharedBeasts, Cond.instanceMethod yX2_sharedBeasts, Cond.selects RX2 yX2_sharedBeasts yX2_sharedBeasts, Cond.initialized RX2, Cond.code yX2_sharedBeasts cX2_sharedBeasts 3 (some .int), Cond.fieldLink RX2 10 "FableIndex" "book" "LFableIndex$Book;", Cond.fieldLink RX2 50 "FableIndex$Book" "beasts" "[I", Cond.methodLink RX2 47 yX2_needFable, Cond.instanceMethod yX2_needFable, Cond.selects RX2 yX2_needFable yX2_needFable, Cond.code yX2_needFable cX2_needFable 2 none, Cond.classLink RX2 238 "java/lang/IndexOutOfBoundsException", Cond.initialized "java/lang/IndexOutOfBoundsException", Cond.fieldLink RX2 146 "FableIndex$Book" "count" "I", Cond.methodLink RX2 70 yX2_size, Cond.static yX2_size, Cond.code yX2_size cX2_size 1 (some .int), Cond.methodLink RX2 253 yJ6_bitCount_0f7a4, Cond.static yJ6_bitCount_0f7a4, Cond.initialized RJ6, Cond.code yJ6_bitCount_0f7a4 cJ6_bitCount_0f7a4 1 (some .int), Cond.constant RJ6 265 (1431655765), Cond.constant RJ6 266 (858993459)]
def wsL_sharedBeasts_r2 : List Cond := [Cond.constant RJ6 267 (252645135)]
def wsL_sharedBeasts : List Cond := .codeWith yL_sharedBeasts cL_sharedBeasts 5 (some .int) [(0, 10, 13, 13)] :: ((wsL_sharedBeasts_r1 ++ wsL_sharedBeasts_r2) ++ wsX20 ++ wsX00 ++ (vx_atS RX2 242 "java/lang/IndexOutOfBoundsException" ["java/lang/RuntimeException", "java/lang/Exception"]).filter goodWord)
def wsL_isOpen : List Cond := .codeWith yL_isOpen cL_isOpen 5 (some .int) [(0, 17, 20, 13)] :: ([.classLink RL 13 "java/lang/IndexOutOfBoundsException", .methodLink RL 77 yX2_isOpen, .instanceMethod yX2_isOpen, .selects RX2 yX2_isOpen yX2_isOpen, .initialized RX2, .code yX2_isOpen cX2_isOpen 3 (some .boolean), .fieldLink RX2 19 "FableIndex" "land" "LFableIndex$Land;", .fieldLink RX2 94 "FableIndex$Land" "ways" "[I", .methodLink RX2 37 yX2_needValley, .static yX2_needValley, .code yX2_needValley cX2_needValley 1 none, .classLink RX2 238 "java/lang/IndexOutOfBoundsException", .initialized "java/lang/IndexOutOfBoundsException", .methodLink RX2 54 yX2_has, .static yX2_has, .code yX2_has cX2_has 2 (some .boolean)] ++ wsX20 ++ wsX10 ++ (vx_atS RX2 242 "java/lang/IndexOutOfBoundsException" ["java/lang/RuntimeException", "java/lang/Exception"]).filter goodWord)
def wsL_isBanned_r1 : List Cond := [Cond.classLink RL 13 "java/lang/IndexOutOfBoundsException", Cond.methodLink RL 80 yX2_isBanned, Cond.instanceMethod yX2_isBanned, Cond.selects RX2 yX2_isBanned yX2_isBanned, Cond.initialized RX2, Cond.code yX2_isBanned cX2_isBanned 3 (some .boolean), Cond.fieldLink RX2 19 "FableIndex" "land" "LFableIndex$Land;", Cond.fieldLink RX2 10 "FableIndex" "book" "LFableIndex$Book;", Cond.methodLink RX2 47 yX2_needFable, Cond.instanceMethod yX2_needFable, Cond.selects RX2 yX2_needFable yX2_needFable, Cond.code yX2_needFable cX2_needFable 2 none, Cond.classLink RX2 238 "java/lang/IndexOutOfBoundsException", Cond.initialized "java/lang/IndexOutOfBoundsException", Cond.fieldLink RX2 146 "FableIndex$Book" "count" "I", Cond.methodLink RX2 37 yX2_needValley, Cond.static yX2_needValley, Cond.code yX2_needValley cX2_needValley 1 none, Cond.methodLink RX2 108 yX1_bans, Cond.instanceMethod yX1_bans, Cond.selects RX1 yX1_bans yX1_bans, Cond.initialized RX1, Cond.code yX1_bans cX1_bans 4 (some .boolean), Cond.fieldLink RX1 15 "FableIndex$Land" "bannedMorals" "[I"]
def wsL_isBanned_r2 : List Cond := [Cond.fieldLink RX1 38 "FableIndex$Book" "moral" "[I", Cond.fieldLink RX1 18 "FableIndex$Land" "bannedBeasts" "[I", Cond.fieldLink RX1 47 "FableIndex$Book" "beasts" "[I", Cond.static yX2_has, Cond.code yX2_has cX2_has 2 (some .boolean)]
def wsL_isBanned : List Cond := .codeWith yL_isBanned cL_isBanned 5 (some .int) [(0, 17, 20, 13)] :: ((wsL_isBanned_r1 ++ wsL_isBanned_r2) ++ wsX20 ++ wsX00 ++ wsX10 ++ (vx_atS RX2 242 "java/lang/IndexOutOfBoundsException" ["java/lang/RuntimeException", "java/lang/Exception"]).filter goodWord)
def wsL_isTold : List Cond := .codeWith yL_isTold cL_isTold 5 (some .int) [(0, 17, 20, 13)] :: ([.classLink RL 13 "java/lang/IndexOutOfBoundsException", .methodLink RL 83 yX2_isTold, .instanceMethod yX2_isTold, .selects RX2 yX2_isTold yX2_isTold, .initialized RX2, .code yX2_isTold cX2_isTold 3 (some .boolean), .fieldLink RX2 19 "FableIndex" "land" "LFableIndex$Land;", .fieldLink RX2 103 "FableIndex$Land" "told" "[I", .methodLink RX2 47 yX2_needFable, .instanceMethod yX2_needFable, .selects RX2 yX2_needFable yX2_needFable, .code yX2_needFable cX2_needFable 2 none, .classLink RX2 238 "java/lang/IndexOutOfBoundsException", .initialized "java/lang/IndexOutOfBoundsException", .fieldLink RX2 10 "FableIndex" "book" "LFableIndex$Book;", .fieldLink RX2 146 "FableIndex$Book" "count" "I", .methodLink RX2 37 yX2_needValley, .static yX2_needValley, .code yX2_needValley cX2_needValley 1 none, .methodLink RX2 54 yX2_has, .static yX2_has, .code yX2_has cX2_has 2 (some .boolean)] ++ wsX20 ++ wsX10 ++ wsX00 ++ (vx_atS RX2 242 "java/lang/IndexOutOfBoundsException" ["java/lang/RuntimeException", "java/lang/Exception"]).filter goodWord)
def wsL_toldIn : List Cond := .codeWith yL_toldIn cL_toldIn 4 (some .int) [(0, 9, 12, 13)] :: ([.classLink RL 13 "java/lang/IndexOutOfBoundsException", .methodLink RL 86 yX2_toldIn, .instanceMethod yX2_toldIn, .selects RX2 yX2_toldIn yX2_toldIn, .initialized RX2, .code yX2_toldIn cX2_toldIn 2 (some .int), .fieldLink RX2 19 "FableIndex" "land" "LFableIndex$Land;", .fieldLink RX2 103 "FableIndex$Land" "told" "[I", .methodLink RX2 37 yX2_needValley, .static yX2_needValley, .code yX2_needValley cX2_needValley 1 none, .classLink RX2 238 "java/lang/IndexOutOfBoundsException", .initialized "java/lang/IndexOutOfBoundsException", .methodLink RX2 70 yX2_size, .static yX2_size, .code yX2_size cX2_size 1 (some .int), .methodLink RX2 253 yJ6_bitCount_0f7a4, .static yJ6_bitCount_0f7a4, .initialized RJ6, .code yJ6_bitCount_0f7a4 cJ6_bitCount_0f7a4 1 (some .int), .constant RJ6 265 (1431655765), .constant RJ6 266 (858993459), .constant RJ6 267 (252645135)] ++ wsX20 ++ wsX10 ++ (vx_atS RX2 242 "java/lang/IndexOutOfBoundsException" ["java/lang/RuntimeException", "java/lang/Exception"]).filter goodWord)
def wsL_allowedIn_r1 : List Cond := [Cond.classLink RL 13 "java/lang/IndexOutOfBoundsException", Cond.methodLink RL 89 yX2_allowedIn, Cond.instanceMethod yX2_allowedIn, Cond.selects RX2 yX2_allowedIn yX2_allowedIn, Cond.initialized RX2, Cond.code yX2_allowedIn cX2_allowedIn 2 (some .int), Cond.fieldLink RX2 19 "FableIndex" "land" "LFableIndex$Land;", Cond.fieldLink RX2 10 "FableIndex" "book" "LFableIndex$Book;", Cond.methodLink RX2 37 yX2_needValley, Cond.static yX2_needValley, Cond.code yX2_needValley cX2_needValley 1 none, Cond.classLink RX2 238 "java/lang/IndexOutOfBoundsException", Cond.initialized "java/lang/IndexOutOfBoundsException", Cond.methodLink RX2 142 yX1_welcome, Cond.instanceMethod yX1_welcome, Cond.selects RX1 yX1_welcome yX1_welcome, Cond.initialized RX1, Cond.code yX1_welcome cX1_welcome 5 (some .int), Cond.fieldLink RX1 50 "FableIndex$Book" "count" "I", Cond.methodLink RX1 53 yX1_bans, Cond.instanceMethod yX1_bans, Cond.selects RX1 yX1_bans yX1_bans, Cond.code yX1_bans cX1_bans 4 (some .boolean), Cond.fieldLink RX1 15 "FableIndex$Land" "bannedMorals" "[I"]
def wsL_allowedIn_r2 : List Cond := [Cond.fieldLink RX1 38 "FableIndex$Book" "moral" "[I", Cond.fieldLink RX1 18 "FableIndex$Land" "bannedBeasts" "[I", Cond.fieldLink RX1 47 "FableIndex$Book" "beasts" "[I", Cond.static yX2_has, Cond.code yX2_has cX2_has 2 (some .boolean), Cond.methodLink RX2 70 yX2_size, Cond.static yX2_size, Cond.code yX2_size cX2_size 1 (some .int), Cond.methodLink RX2 253 yJ6_bitCount_0f7a4, Cond.static yJ6_bitCount_0f7a4, Cond.initialized RJ6, Cond.code yJ6_bitCount_0f7a4 cJ6_bitCount_0f7a4 1 (some .int), Cond.constant RJ6 265 (1431655765), Cond.constant RJ6 266 (858993459), Cond.constant RJ6 267 (252645135)]
def wsL_allowedIn : List Cond := .codeWith yL_allowedIn cL_allowedIn 4 (some .int) [(0, 9, 12, 13)] :: ((wsL_allowedIn_r1 ++ wsL_allowedIn_r2) ++ wsX20 ++ wsX00 ++ wsX10 ++ (vx_atS RX2 242 "java/lang/IndexOutOfBoundsException" ["java/lang/RuntimeException", "java/lang/Exception"]).filter goodWord)
def wsL_bansOf : List Cond := .codeWith yL_bansOf cL_bansOf 4 (some .int) [(0, 9, 12, 13)] :: ([.classLink RL 13 "java/lang/IndexOutOfBoundsException", .methodLink RL 92 yX2_bansOf, .instanceMethod yX2_bansOf, .selects RX2 yX2_bansOf yX2_bansOf, .initialized RX2, .code yX2_bansOf cX2_bansOf 2 (some .int), .fieldLink RX2 19 "FableIndex" "land" "LFableIndex$Land;", .fieldLink RX2 97 "FableIndex$Land" "bannedMorals" "[I", .fieldLink RX2 100 "FableIndex$Land" "bannedBeasts" "[I", .methodLink RX2 37 yX2_needValley, .static yX2_needValley, .code yX2_needValley cX2_needValley 1 none, .classLink RX2 238 "java/lang/IndexOutOfBoundsException", .initialized "java/lang/IndexOutOfBoundsException", .methodLink RX2 70 yX2_size, .static yX2_size, .code yX2_size cX2_size 1 (some .int), .methodLink RX2 253 yJ6_bitCount_0f7a4, .static yJ6_bitCount_0f7a4, .initialized RJ6, .code yJ6_bitCount_0f7a4 cJ6_bitCount_0f7a4 1 (some .int), .constant RJ6 265 (1431655765), .constant RJ6 266 (858993459), .constant RJ6 267 (252645135)] ++ wsX20 ++ wsX10 ++ (vx_atS RX2 242 "java/lang/IndexOutOfBoundsException" ["java/lang/RuntimeException", "java/lang/Exception"]).filter goodWord)
def wsL_fablesWithMoral_r1 : List Cond := [Cond.classLink RL 13 "java/lang/IndexOutOfBoundsException", Cond.methodLink RL 95 yX2_fablesWithMoral, Cond.instanceMethod yX2_fablesWithMoral, Cond.selects RX2 yX2_fablesWithMoral yX2_fablesWithMoral, Cond.initialized RX2, Cond.code yX2_fablesWithMoral cX2_fablesWithMoral 2 (some .int), Cond.fieldLink RX2 10 "FableIndex" "book" "LFableIndex$Book;", Cond.methodLink RX2 30 yX2_needMoral, Cond.static yX2_needMoral, Cond.code yX2_needMoral cX2_needMoral 1 none, Cond.classLink RX2 238 "java/lang/IndexOutOfBoundsException", Cond.initialized "java/lang/IndexOutOfBoundsException", Cond.methodLink RX2 151 yX0_withMoral, Cond.instanceMethod yX0_withMoral, Cond.selects RX0 yX0_withMoral yX0_withMoral, Cond.initialized RX0, Cond.code yX0_withMoral cX0_withMoral 4 (some .int), Cond.fieldLink RX0 9 "FableIndex$Book" "count" "I", Cond.fieldLink RX0 15 "FableIndex$Book" "moral" "[I", Cond.methodLink RX2 70 yX2_size, Cond.static yX2_size, Cond.code yX2_size cX2_size 1 (some .int), Cond.methodLink RX2 253 yJ6_bitCount_0f7a4, Cond.static yJ6_bitCount_0f7a4]
def wsL_fablesWithMoral_r2 : List Cond := [Cond.initialized RJ6, Cond.code yJ6_bitCount_0f7a4 cJ6_bitCount_0f7a4 1 (some .int), Cond.constant RJ6 265 (1431655765), Cond.constant RJ6 266 (858993459), Cond.constant RJ6 267 (252645135)]
def wsL_fablesWithMoral : List Cond := .codeWith yL_fablesWithMoral cL_fablesWithMoral 4 (some .int) [(0, 9, 12, 13)] :: ((wsL_fablesWithMoral_r1 ++ wsL_fablesWithMoral_r2) ++ wsX20 ++ wsX00 ++ (vx_atS RX2 242 "java/lang/IndexOutOfBoundsException" ["java/lang/RuntimeException", "java/lang/Exception"]).filter goodWord)
def wsL_fablesWithBeast_r1 : List Cond := [Cond.classLink RL 13 "java/lang/IndexOutOfBoundsException", Cond.methodLink RL 98 yX2_fablesWithBeast, Cond.instanceMethod yX2_fablesWithBeast, Cond.selects RX2 yX2_fablesWithBeast yX2_fablesWithBeast, Cond.initialized RX2, Cond.code yX2_fablesWithBeast cX2_fablesWithBeast 2 (some .int), Cond.fieldLink RX2 10 "FableIndex" "book" "LFableIndex$Book;", Cond.methodLink RX2 34 yX2_needBeast, Cond.static yX2_needBeast, Cond.code yX2_needBeast cX2_needBeast 1 none, Cond.classLink RX2 238 "java/lang/IndexOutOfBoundsException", Cond.initialized "java/lang/IndexOutOfBoundsException", Cond.methodLink RX2 154 yX0_withBeast, Cond.instanceMethod yX0_withBeast, Cond.selects RX0 yX0_withBeast yX0_withBeast, Cond.initialized RX0, Cond.code yX0_withBeast cX0_withBeast 4 (some .int), Cond.fieldLink RX0 9 "FableIndex$Book" "count" "I", Cond.fieldLink RX0 19 "FableIndex$Book" "beasts" "[I", Cond.static yX2_has, Cond.code yX2_has cX2_has 2 (some .boolean), Cond.methodLink RX2 70 yX2_size, Cond.static yX2_size, Cond.code yX2_size cX2_size 1 (some .int)]
def wsL_fablesWithBeast_r2 : List Cond := [Cond.methodLink RX2 253 yJ6_bitCount_0f7a4, Cond.static yJ6_bitCount_0f7a4, Cond.initialized RJ6, Cond.code yJ6_bitCount_0f7a4 cJ6_bitCount_0f7a4 1 (some .int), Cond.constant RJ6 265 (1431655765), Cond.constant RJ6 266 (858993459), Cond.constant RJ6 267 (252645135)]
def wsL_fablesWithBeast : List Cond := .codeWith yL_fablesWithBeast cL_fablesWithBeast 4 (some .int) [(0, 9, 12, 13)] :: ((wsL_fablesWithBeast_r1 ++ wsL_fablesWithBeast_r2) ++ wsX20 ++ wsX00 ++ (vx_atS RX2 242 "java/lang/IndexOutOfBoundsException" ["java/lang/RuntimeException", "java/lang/Exception"]).filter goodWord)
def wsL_seasonsUntil_r1 : List Cond := [Cond.classLink RL 13 "java/lang/IndexOutOfBoundsException", Cond.methodLink RL 101 yX2_seasonsUntil, Cond.instanceMethod yX2_seasonsUntil, Cond.selects RX2 yX2_seasonsUntil yX2_seasonsUntil, Cond.initialized RX2, Cond.code yX2_seasonsUntil cX2_seasonsUntil 4 (some .int), Cond.fieldLink RX2 23 "FableIndex" "trial" "LFableIndex$Land;", Cond.fieldLink RX2 19 "FableIndex" "land" "LFableIndex$Land;", Cond.fieldLink RX2 103 "FableIndex$Land" "told" "[I", Cond.fieldLink RX2 10 "FableIndex" "book" "LFableIndex$Book;", Cond.methodLink RX2 47 yX2_needFable, Cond.instanceMethod yX2_needFable, Cond.selects RX2 yX2_needFable yX2_needFable, Cond.code yX2_needFable cX2_needFable 2 none, Cond.classLink RX2 238 "java/lang/IndexOutOfBoundsException", Cond.initialized "java/lang/IndexOutOfBoundsException", Cond.fieldLink RX2 146 "FableIndex$Book" "count" "I", Cond.methodLink RX2 37 yX2_needValley, Cond.static yX2_needValley, Cond.code yX2_needValley cX2_needValley 1 none, Cond.methodLink RX2 157 yX1_become, Cond.instanceMethod yX1_become, Cond.selects RX1 yX1_become yX1_become, Cond.initialized RX1]
def wsL_seasonsUntil_r2 : List Cond := [Cond.code yX1_become cX1_become 3 none, Cond.fieldLink RX1 9 "FableIndex$Land" "ways" "[I", Cond.fieldLink RX1 15 "FableIndex$Land" "bannedMorals" "[I", Cond.fieldLink RX1 18 "FableIndex$Land" "bannedBeasts" "[I", Cond.fieldLink RX1 21 "FableIndex$Land" "told" "[I", Cond.fieldLink RX1 30 "FableIndex$Land" "hushed" "I", Cond.methodLink RX2 54 yX2_has, Cond.static yX2_has, Cond.code yX2_has cX2_has 2 (some .boolean), Cond.methodLink RX2 122 yX1_live, Cond.instanceMethod yX1_live, Cond.selects RX1 yX1_live yX1_live, Cond.code yX1_live cX1_live 5 none, Cond.fieldLink RX1 24 "FableIndex$Land" "allowed" "[I", Cond.methodLink RX1 61 yX1_welcome, Cond.instanceMethod yX1_welcome, Cond.selects RX1 yX1_welcome yX1_welcome, Cond.code yX1_welcome cX1_welcome 5 (some .int), Cond.fieldLink RX1 50 "FableIndex$Book" "count" "I", Cond.methodLink RX1 53 yX1_bans, Cond.instanceMethod yX1_bans, Cond.selects RX1 yX1_bans yX1_bans, Cond.code yX1_bans cX1_bans 4 (some .boolean), Cond.fieldLink RX1 38 "FableIndex$Book" "moral" "[I"]
def wsL_seasonsUntil_r3 : List Cond := [Cond.fieldLink RX1 47 "FableIndex$Book" "beasts" "[I", Cond.methodLink RX1 65 yX1_hush, Cond.instanceMethod yX1_hush, Cond.selects RX1 yX1_hush yX1_hush, Cond.code yX1_hush cX1_hush 2 none, Cond.fieldLink RX1 27 "FableIndex$Land" "kept" "[I", Cond.static yX2_size, Cond.code yX2_size cX2_size 1 (some .int), Cond.methodLink RX2 253 yJ6_bitCount_0f7a4, Cond.static yJ6_bitCount_0f7a4, Cond.initialized RJ6, Cond.code yJ6_bitCount_0f7a4 cJ6_bitCount_0f7a4 1 (some .int), Cond.constant RJ6 265 (1431655765), Cond.constant RJ6 266 (858993459), Cond.constant RJ6 267 (252645135), Cond.methodLink RX1 68 yX1_spread, Cond.instanceMethod yX1_spread, Cond.selects RX1 yX1_spread yX1_spread, Cond.code yX1_spread cX1_spread 5 (some .boolean), Cond.methodLink RX1 72 yX1_arriving, Cond.instanceMethod yX1_arriving, Cond.selects RX1 yX1_arriving yX1_arriving, Cond.code yX1_arriving cX1_arriving 4 (some .int), Cond.methodLink RX1 75 yX1_admitted]
def wsL_seasonsUntil_r4 : List Cond := [Cond.instanceMethod yX1_admitted, Cond.selects RX1 yX1_admitted yX1_admitted, Cond.code yX1_admitted cX1_admitted 7 (some .int), Cond.fieldLink RX1 79 "FableIndex$Book" "variants" "[I", Cond.static yX2_smallestAlone, Cond.code yX2_smallestAlone cX2_smallestAlone 1 (some .int)]
def wsL_seasonsUntil : List Cond := .codeWith yL_seasonsUntil cL_seasonsUntil 5 (some .int) [(0, 10, 13, 13)] :: ((wsL_seasonsUntil_r1 ++ (wsL_seasonsUntil_r2 ++ (wsL_seasonsUntil_r3 ++ wsL_seasonsUntil_r4))) ++ wsX20 ++ wsX10 ++ wsX00 ++ (vx_atS RX2 242 "java/lang/IndexOutOfBoundsException" ["java/lang/RuntimeException", "java/lang/Exception"]).filter goodWord)
def wsL_tellingsAfter_r1 : List Cond := [Cond.classLink RL 29 "java/lang/IllegalArgumentException", Cond.methodLink RL 104 yX2_tellingsAfter, Cond.instanceMethod yX2_tellingsAfter, Cond.selects RX2 yX2_tellingsAfter yX2_tellingsAfter, Cond.initialized RX2, Cond.code yX2_tellingsAfter cX2_tellingsAfter 2 (some .int), Cond.fieldLink RX2 23 "FableIndex" "trial" "LFableIndex$Land;", Cond.fieldLink RX2 19 "FableIndex" "land" "LFableIndex$Land;", Cond.methodLink RX2 119 yX2_needSeasons, Cond.static yX2_needSeasons, Cond.code yX2_needSeasons cX2_needSeasons 2 none, Cond.classLink RX2 85 "java/lang/IllegalArgumentException", Cond.initialized "java/lang/IllegalArgumentException", Cond.methodLink RX2 157 yX1_become, Cond.instanceMethod yX1_become, Cond.selects RX1 yX1_become yX1_become, Cond.initialized RX1, Cond.code yX1_become cX1_become 3 none, Cond.fieldLink RX1 9 "FableIndex$Land" "ways" "[I", Cond.fieldLink RX1 15 "FableIndex$Land" "bannedMorals" "[I", Cond.fieldLink RX1 18 "FableIndex$Land" "bannedBeasts" "[I", Cond.fieldLink RX1 21 "FableIndex$Land" "told" "[I", Cond.fieldLink RX1 30 "FableIndex$Land" "hushed" "I", Cond.methodLink RX2 161 yX2_tellingsOfTrial]
def wsL_tellingsAfter_r2 : List Cond := [Cond.instanceMethod yX2_tellingsOfTrial, Cond.selects RX2 yX2_tellingsOfTrial yX2_tellingsOfTrial, Cond.code yX2_tellingsOfTrial cX2_tellingsOfTrial 2 (some .int), Cond.fieldLink RX2 10 "FableIndex" "book" "LFableIndex$Book;", Cond.methodLink RX2 122 yX1_live, Cond.instanceMethod yX1_live, Cond.selects RX1 yX1_live yX1_live, Cond.code yX1_live cX1_live 5 none, Cond.fieldLink RX1 24 "FableIndex$Land" "allowed" "[I", Cond.methodLink RX1 61 yX1_welcome, Cond.instanceMethod yX1_welcome, Cond.selects RX1 yX1_welcome yX1_welcome, Cond.code yX1_welcome cX1_welcome 5 (some .int), Cond.fieldLink RX1 50 "FableIndex$Book" "count" "I", Cond.methodLink RX1 53 yX1_bans, Cond.instanceMethod yX1_bans, Cond.selects RX1 yX1_bans yX1_bans, Cond.code yX1_bans cX1_bans 4 (some .boolean), Cond.fieldLink RX1 38 "FableIndex$Book" "moral" "[I", Cond.fieldLink RX1 47 "FableIndex$Book" "beasts" "[I", Cond.static yX2_has, Cond.code yX2_has cX2_has 2 (some .boolean), Cond.methodLink RX1 65 yX1_hush, Cond.instanceMethod yX1_hush]
def wsL_tellingsAfter_r3 : List Cond := [Cond.selects RX1 yX1_hush yX1_hush, Cond.code yX1_hush cX1_hush 2 none, Cond.fieldLink RX1 27 "FableIndex$Land" "kept" "[I", Cond.static yX2_size, Cond.code yX2_size cX2_size 1 (some .int), Cond.methodLink RX2 253 yJ6_bitCount_0f7a4, Cond.static yJ6_bitCount_0f7a4, Cond.initialized RJ6, Cond.code yJ6_bitCount_0f7a4 cJ6_bitCount_0f7a4 1 (some .int), Cond.constant RJ6 265 (1431655765), Cond.constant RJ6 266 (858993459), Cond.constant RJ6 267 (252645135), Cond.methodLink RX1 68 yX1_spread, Cond.instanceMethod yX1_spread, Cond.selects RX1 yX1_spread yX1_spread, Cond.code yX1_spread cX1_spread 5 (some .boolean), Cond.methodLink RX1 72 yX1_arriving, Cond.instanceMethod yX1_arriving, Cond.selects RX1 yX1_arriving yX1_arriving, Cond.code yX1_arriving cX1_arriving 4 (some .int), Cond.methodLink RX1 75 yX1_admitted, Cond.instanceMethod yX1_admitted, Cond.selects RX1 yX1_admitted yX1_admitted, Cond.code yX1_admitted cX1_admitted 7 (some .int)]
def wsL_tellingsAfter_r4 : List Cond := [Cond.fieldLink RX1 79 "FableIndex$Book" "variants" "[I", Cond.static yX2_smallestAlone, Cond.code yX2_smallestAlone cX2_smallestAlone 1 (some .int), Cond.methodLink RX2 126 yX0_all, Cond.instanceMethod yX0_all, Cond.selects RX0 yX0_all yX0_all, Cond.initialized RX0, Cond.code yX0_all cX0_all 1 (some .int), Cond.fieldLink RX0 9 "FableIndex$Book" "count" "I", Cond.methodLink RX2 114 yX1_count, Cond.instanceMethod yX1_count, Cond.selects RX1 yX1_count yX1_count, Cond.code yX1_count cX1_count 4 (some .int)]
def wsL_tellingsAfter : List Cond := .codeWith yL_tellingsAfter cL_tellingsAfter 4 (some .int) [(0, 9, 12, 29)] :: ((wsL_tellingsAfter_r1 ++ (wsL_tellingsAfter_r2 ++ (wsL_tellingsAfter_r3 ++ wsL_tellingsAfter_r4))) ++ wsX20 ++ wsX10 ++ wsX00 ++ (vx_atS RX2 89 "java/lang/IllegalArgumentException" ["java/lang/RuntimeException", "java/lang/Exception"]).filter goodWord)
def wsL_bestPass_r1 : List Cond := [Cond.classLink RL 29 "java/lang/IllegalArgumentException", Cond.methodLink RL 107 yX2_bestPass, Cond.instanceMethod yX2_bestPass, Cond.selects RX2 yX2_bestPass yX2_bestPass, Cond.initialized RX2, Cond.code yX2_bestPass cX2_bestPass 7 (some .int), Cond.fieldLink RX2 23 "FableIndex" "trial" "LFableIndex$Land;", Cond.fieldLink RX2 19 "FableIndex" "land" "LFableIndex$Land;", Cond.fieldLink RX2 94 "FableIndex$Land" "ways" "[I", Cond.methodLink RX2 119 yX2_needSeasons, Cond.static yX2_needSeasons, Cond.code yX2_needSeasons cX2_needSeasons 2 none, Cond.classLink RX2 85 "java/lang/IllegalArgumentException", Cond.initialized "java/lang/IllegalArgumentException", Cond.methodLink RX2 157 yX1_become, Cond.instanceMethod yX1_become, Cond.selects RX1 yX1_become yX1_become, Cond.initialized RX1, Cond.code yX1_become cX1_become 3 none, Cond.fieldLink RX1 9 "FableIndex$Land" "ways" "[I", Cond.fieldLink RX1 15 "FableIndex$Land" "bannedMorals" "[I", Cond.fieldLink RX1 18 "FableIndex$Land" "bannedBeasts" "[I", Cond.fieldLink RX1 21 "FableIndex$Land" "told" "[I", Cond.fieldLink RX1 30 "FableIndex$Land" "hushed" "I"]
def wsL_bestPass_r2 : List Cond := [Cond.methodLink RX2 161 yX2_tellingsOfTrial, Cond.instanceMethod yX2_tellingsOfTrial, Cond.selects RX2 yX2_tellingsOfTrial yX2_tellingsOfTrial, Cond.code yX2_tellingsOfTrial cX2_tellingsOfTrial 2 (some .int), Cond.fieldLink RX2 10 "FableIndex" "book" "LFableIndex$Book;", Cond.methodLink RX2 122 yX1_live, Cond.instanceMethod yX1_live, Cond.selects RX1 yX1_live yX1_live, Cond.code yX1_live cX1_live 5 none, Cond.fieldLink RX1 24 "FableIndex$Land" "allowed" "[I", Cond.methodLink RX1 61 yX1_welcome, Cond.instanceMethod yX1_welcome, Cond.selects RX1 yX1_welcome yX1_welcome, Cond.code yX1_welcome cX1_welcome 5 (some .int), Cond.fieldLink RX1 50 "FableIndex$Book" "count" "I", Cond.methodLink RX1 53 yX1_bans, Cond.instanceMethod yX1_bans, Cond.selects RX1 yX1_bans yX1_bans, Cond.code yX1_bans cX1_bans 4 (some .boolean), Cond.fieldLink RX1 38 "FableIndex$Book" "moral" "[I", Cond.fieldLink RX1 47 "FableIndex$Book" "beasts" "[I", Cond.static yX2_has, Cond.code yX2_has cX2_has 2 (some .boolean), Cond.methodLink RX1 65 yX1_hush]
def wsL_bestPass_r3 : List Cond := [Cond.instanceMethod yX1_hush, Cond.selects RX1 yX1_hush yX1_hush, Cond.code yX1_hush cX1_hush 2 none, Cond.fieldLink RX1 27 "FableIndex$Land" "kept" "[I", Cond.static yX2_size, Cond.code yX2_size cX2_size 1 (some .int), Cond.methodLink RX2 253 yJ6_bitCount_0f7a4, Cond.static yJ6_bitCount_0f7a4, Cond.initialized RJ6, Cond.code yJ6_bitCount_0f7a4 cJ6_bitCount_0f7a4 1 (some .int), Cond.constant RJ6 265 (1431655765), Cond.constant RJ6 266 (858993459), Cond.constant RJ6 267 (252645135), Cond.methodLink RX1 68 yX1_spread, Cond.instanceMethod yX1_spread, Cond.selects RX1 yX1_spread yX1_spread, Cond.code yX1_spread cX1_spread 5 (some .boolean), Cond.methodLink RX1 72 yX1_arriving, Cond.instanceMethod yX1_arriving, Cond.selects RX1 yX1_arriving yX1_arriving, Cond.code yX1_arriving cX1_arriving 4 (some .int), Cond.methodLink RX1 75 yX1_admitted, Cond.instanceMethod yX1_admitted, Cond.selects RX1 yX1_admitted yX1_admitted]
def wsL_bestPass_r4 : List Cond := [Cond.code yX1_admitted cX1_admitted 7 (some .int), Cond.fieldLink RX1 79 "FableIndex$Book" "variants" "[I", Cond.static yX2_smallestAlone, Cond.code yX2_smallestAlone cX2_smallestAlone 1 (some .int), Cond.methodLink RX2 126 yX0_all, Cond.instanceMethod yX0_all, Cond.selects RX0 yX0_all yX0_all, Cond.initialized RX0, Cond.code yX0_all cX0_all 1 (some .int), Cond.fieldLink RX0 9 "FableIndex$Book" "count" "I", Cond.methodLink RX2 114 yX1_count, Cond.instanceMethod yX1_count, Cond.selects RX1 yX1_count yX1_count, Cond.code yX1_count cX1_count 4 (some .int), Cond.methodLink RX2 54 yX2_has, Cond.methodLink RX2 164 yX2_tellingsWithPass, Cond.instanceMethod yX2_tellingsWithPass, Cond.selects RX2 yX2_tellingsWithPass yX2_tellingsWithPass, Cond.code yX2_tellingsWithPass cX2_tellingsWithPass 4 (some .int), Cond.methodLink RX2 90 yX1_turnWay, Cond.instanceMethod yX1_turnWay, Cond.selects RX1 yX1_turnWay yX1_turnWay, Cond.code yX1_turnWay cX1_turnWay 3 none, Cond.static yX2_turned]
def wsL_bestPass_r5 : List Cond := [Cond.code yX2_turned cX2_turned 2 (some .int)]
def wsL_bestPass : List Cond := .codeWith yL_bestPass cL_bestPass 4 (some .int) [(0, 9, 12, 29)] :: ((wsL_bestPass_r1 ++ (wsL_bestPass_r2 ++ (wsL_bestPass_r3 ++ (wsL_bestPass_r4 ++ wsL_bestPass_r5)))) ++ wsX20 ++ wsX10 ++ wsX00 ++ (vx_atS RX2 89 "java/lang/IllegalArgumentException" ["java/lang/RuntimeException", "java/lang/Exception"]).filter goodWord)
def wsL_law0_r1 : List Cond := [Cond.classLink RL 8 RX2, Cond.instantiable RX2 4, Cond.initialized RX2, Cond.classLink RL 111 RX3, Cond.instantiable RX3 14, Cond.initialized RX3, Cond.arrayClass .long, Cond.methodLink RL 110 yX2_init, Cond.instanceMethod yX2_init, Cond.code yX2_init cX2_init 1 none, Cond.methodLink RX2 1 objectInit, Cond.instanceMethod objectInit, Cond.code objectInit ⟨#[0xb1]⟩ 1 none, Cond.classLink RX2 7 RX0, Cond.instantiable RX0 7, Cond.initialized RX0, Cond.fieldLink RX2 10 "FableIndex" "book" "LFableIndex$Book;", Cond.classLink RX2 16 RX1, Cond.instantiable RX1 7, Cond.initialized RX1, Cond.fieldLink RX2 19 "FableIndex" "land" "LFableIndex$Land;", Cond.fieldLink RX2 23 "FableIndex" "trial" "LFableIndex$Land;", Cond.fieldLink RX2 26 "FableIndex" "season" "I", Cond.methodLink RX2 9 yX0_init]
def wsL_law0_r2 : List Cond := [Cond.instanceMethod yX0_init, Cond.code yX0_init cX0_init 1 none, Cond.methodLink RX0 3 objectInit, Cond.fieldLink RX0 9 "FableIndex$Book" "count" "I", Cond.arrayClass .int, Cond.fieldLink RX0 15 "FableIndex$Book" "moral" "[I", Cond.fieldLink RX0 19 "FableIndex$Book" "beasts" "[I", Cond.fieldLink RX0 22 "FableIndex$Book" "home" "[I", Cond.fieldLink RX0 25 "FableIndex$Book" "parent" "[I", Cond.fieldLink RX0 28 "FableIndex$Book" "variants" "[I", Cond.fieldLink RX0 31 "FableIndex$Book" "ancestors" "[I", Cond.methodLink RX2 18 yX1_init, Cond.instanceMethod yX1_init, Cond.code yX1_init cX1_init 1 none, Cond.methodLink RX1 3 objectInit, Cond.fieldLink RX1 9 "FableIndex$Land" "ways" "[I", Cond.fieldLink RX1 15 "FableIndex$Land" "bannedMorals" "[I", Cond.fieldLink RX1 18 "FableIndex$Land" "bannedBeasts" "[I", Cond.fieldLink RX1 21 "FableIndex$Land" "told" "[I", Cond.fieldLink RX1 24 "FableIndex$Land" "allowed" "[I", Cond.fieldLink RX1 27 "FableIndex$Land" "kept" "[I", Cond.fieldLink RX1 30 "FableIndex$Land" "hushed" "I", Cond.methodLink RL 113 yX3_init, Cond.instanceMethod yX3_init]
def wsL_law0_r3 : List Cond := [Cond.code yX3_init cX3_init 1 none, Cond.methodLink RX3 1 objectInit, Cond.fieldLink RX3 9 "FableIndexModel" "moral" "[I", Cond.fieldLink RX3 13 "FableIndexModel" "beasts" "[I", Cond.fieldLink RX3 16 "FableIndexModel" "home" "[I", Cond.fieldLink RX3 19 "FableIndexModel" "parent" "[I", Cond.fieldLink RX3 22 "FableIndexModel" "told" "[I", Cond.fieldLink RX3 25 "FableIndexModel" "morals" "[I", Cond.fieldLink RX3 28 "FableIndexModel" "bans" "[I", Cond.fieldLink RX3 31 "FableIndexModel" "passes" "[I", Cond.fieldLink RX3 34 "FableIndexModel" "next" "[I", Cond.fieldLink RX3 37 "FableIndexModel" "kept" "[I", Cond.methodLink RL 114 yL_addFable, Cond.static yL_addFable, Cond.initialized RL, Cond.codeWith yL_addFable cL_addFable 6 (some .int) [(0, 12, 15, 13), (0, 12, 19, 15)], Cond.classLink RL 13 "java/lang/IndexOutOfBoundsException", Cond.classLink RL 15 "java/lang/IllegalStateException", Cond.methodLink RL 7 yX2_addFable, Cond.instanceMethod yX2_addFable, Cond.selects RX2 yX2_addFable yX2_addFable, Cond.code yX2_addFable cX2_addFable 4 (some .int), Cond.methodLink RX2 30 yX2_needMoral, Cond.static yX2_needMoral]
def wsL_law0_r4 : List Cond := [Cond.code yX2_needMoral cX2_needMoral 1 none, Cond.classLink RX2 238 "java/lang/IndexOutOfBoundsException", Cond.initialized "java/lang/IndexOutOfBoundsException", Cond.methodLink RX2 34 yX2_needBeast, Cond.static yX2_needBeast, Cond.code yX2_needBeast cX2_needBeast 1 none, Cond.methodLink RX2 37 yX2_needValley, Cond.static yX2_needValley, Cond.code yX2_needValley cX2_needValley 1 none, Cond.methodLink RX2 40 yX2_needFreePage, Cond.instanceMethod yX2_needFreePage, Cond.selects RX2 yX2_needFreePage yX2_needFreePage, Cond.code yX2_needFreePage cX2_needFreePage 1 none, Cond.classLink RX2 58 "java/lang/IllegalStateException", Cond.initialized "java/lang/IllegalStateException", Cond.fieldLink RX2 146 "FableIndex$Book" "count" "I", Cond.methodLink RX2 43 yX0_write, Cond.instanceMethod yX0_write, Cond.selects RX0 yX0_write yX0_write, Cond.code yX0_write cX0_write 6 (some .int), Cond.methodLink RL 119 yX3_addFable, Cond.instanceMethod yX3_addFable, Cond.selects RX3 yX3_addFable yX3_addFable, Cond.code yX3_addFable cX3_addFable 4 (some .int)]
def wsL_law0_r5 : List Cond := [Cond.fieldLink RX3 40 "FableIndexModel" "thrown" "I", Cond.fieldLink RX3 44 "FableIndexModel" "fables" "I", Cond.methodLink RX3 55 yX3_isMoral, Cond.static yX3_isMoral, Cond.code yX3_isMoral cX3_isMoral 1 (some .boolean), Cond.methodLink RX3 47 yX3_isIn, Cond.static yX3_isIn, Cond.code yX3_isIn cX3_isIn 3 (some .boolean), Cond.methodLink RX3 59 yX3_isBeast, Cond.static yX3_isBeast, Cond.code yX3_isBeast cX3_isBeast 1 (some .boolean), Cond.methodLink RX3 62 yX3_isValley, Cond.static yX3_isValley, Cond.code yX3_isValley cX3_isValley 1 (some .boolean), Cond.methodLink RX3 65 yX3_fail, Cond.instanceMethod yX3_fail, Cond.selects RX3 yX3_fail yX3_fail, Cond.code yX3_fail cX3_fail 2 (some .int), Cond.methodLink RX3 69 yX3_write, Cond.instanceMethod yX3_write, Cond.selects RX3 yX3_write yX3_write, Cond.code yX3_write cX3_write 5 (some .int), Cond.methodLink RL 120 yX3_thrown, Cond.instanceMethod yX3_thrown]
def wsL_law0_r6 : List Cond := [Cond.selects RX3 yX3_thrown yX3_thrown, Cond.code yX3_thrown cX3_thrown 1 (some .int), Cond.methodLink RL 124 yL_addBeast, Cond.static yL_addBeast, Cond.codeWith yL_addBeast cL_addBeast 5 (some .int) [(0, 10, 13, 13), (0, 10, 17, 15)], Cond.methodLink RL 17 yX2_addBeast, Cond.instanceMethod yX2_addBeast, Cond.selects RX2 yX2_addBeast yX2_addBeast, Cond.code yX2_addBeast cX2_addBeast 3 (some .int), Cond.fieldLink RX2 50 "FableIndex$Book" "beasts" "[I", Cond.fieldLink RX2 65 "FableIndex$Book" "variants" "[I", Cond.methodLink RX2 47 yX2_needFable, Cond.instanceMethod yX2_needFable, Cond.selects RX2 yX2_needFable yX2_needFable, Cond.code yX2_needFable cX2_needFable 2 none, Cond.methodLink RX2 54 yX2_has, Cond.static yX2_has, Cond.code yX2_has cX2_has 2 (some .boolean), Cond.methodLink RX2 70 yX2_size, Cond.static yX2_size, Cond.code yX2_size cX2_size 1 (some .int), Cond.methodLink RX2 253 yJ6_bitCount_0f7a4, Cond.static yJ6_bitCount_0f7a4, Cond.initialized RJ6]
def wsL_law0_r7 : List Cond := [Cond.code yJ6_bitCount_0f7a4 cJ6_bitCount_0f7a4 1 (some .int), Cond.constant RJ6 265 (1431655765), Cond.constant RJ6 266 (858993459), Cond.constant RJ6 267 (252645135), Cond.methodLink RL 127 yX3_addBeast, Cond.instanceMethod yX3_addBeast, Cond.selects RX3 yX3_addBeast yX3_addBeast, Cond.code yX3_addBeast cX3_addBeast 3 (some .int), Cond.methodLink RX3 73 yX3_isFable, Cond.instanceMethod yX3_isFable, Cond.selects RX3 yX3_isFable yX3_isFable, Cond.code yX3_isFable cX3_isFable 2 (some .boolean), Cond.methodLink RX3 51 yX3_has, Cond.static yX3_has, Cond.code yX3_has cX3_has 2 (some .boolean), Cond.methodLink RX3 76 yX3_children, Cond.instanceMethod yX3_children, Cond.selects RX3 yX3_children yX3_children, Cond.code yX3_children cX3_children 4 (some .int), Cond.methodLink RX3 79 yX3_many, Cond.static yX3_many, Cond.code yX3_many cX3_many 3 (some .int), Cond.methodLink RL 128 yL_addVariant, Cond.static yL_addVariant]
def wsL_law0_r8 : List Cond := [Cond.codeWith yL_addVariant cL_addVariant 7 (some .int) [(0, 14, 17, 13), (0, 14, 21, 15)], Cond.methodLink RL 21 yX2_addVariant, Cond.instanceMethod yX2_addVariant, Cond.selects RX2 yX2_addVariant yX2_addVariant, Cond.code yX2_addVariant cX2_addVariant 6 (some .int), Cond.fieldLink RX2 78 "FableIndex$Book" "moral" "[I", Cond.methodLink RX2 81 yX2_turned, Cond.static yX2_turned, Cond.code yX2_turned cX2_turned 2 (some .int), Cond.methodLink RL 131 yX3_addVariant, Cond.instanceMethod yX3_addVariant, Cond.selects RX3 yX3_addVariant yX3_addVariant, Cond.code yX3_addVariant cX3_addVariant 5 (some .int), Cond.methodLink RL 132 yL_turnPass, Cond.static yL_turnPass, Cond.codeWith yL_turnPass cL_turnPass 5 (some .int) [(0, 17, 20, 13), (0, 17, 24, 29)], Cond.classLink RL 29 "java/lang/IllegalArgumentException", Cond.methodLink RL 25 yX2_turnPass, Cond.instanceMethod yX2_turnPass, Cond.selects RX2 yX2_turnPass yX2_turnPass, Cond.code yX2_turnPass cX2_turnPass 3 (some .boolean), Cond.classLink RX2 85 "java/lang/IllegalArgumentException", Cond.initialized "java/lang/IllegalArgumentException", Cond.fieldLink RX2 94 "FableIndex$Land" "ways" "[I"]
def wsL_law0_r9 : List Cond := [Cond.methodLink RX2 90 yX1_turnWay, Cond.instanceMethod yX1_turnWay, Cond.selects RX1 yX1_turnWay yX1_turnWay, Cond.code yX1_turnWay cX1_turnWay 3 none, Cond.methodLink RL 134 yX3_turnPass, Cond.instanceMethod yX3_turnPass, Cond.selects RX3 yX3_turnPass yX3_turnPass, Cond.code yX3_turnPass cX3_turnPass 3 (some .boolean), Cond.methodLink RX3 82 yX3_failed, Cond.instanceMethod yX3_failed, Cond.selects RX3 yX3_failed yX3_failed, Cond.code yX3_failed cX3_failed 2 (some .boolean), Cond.methodLink RL 135 yL_turnMoral, Cond.static yL_turnMoral, Cond.codeWith yL_turnMoral cL_turnMoral 5 (some .int) [(0, 17, 20, 13)], Cond.methodLink RL 31 yX2_turnMoral, Cond.instanceMethod yX2_turnMoral, Cond.selects RX2 yX2_turnMoral yX2_turnMoral, Cond.code yX2_turnMoral cX2_turnMoral 3 (some .boolean), Cond.fieldLink RX2 97 "FableIndex$Land" "bannedMorals" "[I", Cond.methodLink RL 137 yX3_turnMoral, Cond.instanceMethod yX3_turnMoral, Cond.selects RX3 yX3_turnMoral yX3_turnMoral, Cond.code yX3_turnMoral cX3_turnMoral 3 (some .boolean)]
def wsL_law0_r10 : List Cond := [Cond.methodLink RL 138 yL_turnBeast, Cond.static yL_turnBeast, Cond.codeWith yL_turnBeast cL_turnBeast 5 (some .int) [(0, 17, 20, 13)], Cond.methodLink RL 34 yX2_turnBeast, Cond.instanceMethod yX2_turnBeast, Cond.selects RX2 yX2_turnBeast yX2_turnBeast, Cond.code yX2_turnBeast cX2_turnBeast 3 (some .boolean), Cond.fieldLink RX2 100 "FableIndex$Land" "bannedBeasts" "[I", Cond.methodLink RL 140 yX3_turnBeast, Cond.instanceMethod yX3_turnBeast, Cond.selects RX3 yX3_turnBeast yX3_turnBeast, Cond.code yX3_turnBeast cX3_turnBeast 3 (some .boolean), Cond.methodLink RL 141 yL_tell, Cond.static yL_tell, Cond.codeWith yL_tell cL_tell 5 (some .int) [(0, 10, 13, 13), (0, 10, 17, 15)], Cond.methodLink RL 37 yX2_tell, Cond.instanceMethod yX2_tell, Cond.selects RX2 yX2_tell yX2_tell, Cond.code yX2_tell cX2_tell 3 (some .int), Cond.fieldLink RX2 103 "FableIndex$Land" "told" "[I", Cond.methodLink RX2 108 yX1_bans, Cond.instanceMethod yX1_bans, Cond.selects RX1 yX1_bans yX1_bans, Cond.code yX1_bans cX1_bans 4 (some .boolean)]
def wsL_law0_r11 : List Cond := [Cond.fieldLink RX1 38 "FableIndex$Book" "moral" "[I", Cond.fieldLink RX1 47 "FableIndex$Book" "beasts" "[I", Cond.methodLink RX2 114 yX1_count, Cond.instanceMethod yX1_count, Cond.selects RX1 yX1_count yX1_count, Cond.code yX1_count cX1_count 4 (some .int), Cond.methodLink RL 143 yX3_tell, Cond.instanceMethod yX3_tell, Cond.selects RX3 yX3_tell yX3_tell, Cond.code yX3_tell cX3_tell 3 (some .int), Cond.methodLink RX3 85 yX3_isPlace, Cond.instanceMethod yX3_isPlace, Cond.selects RX3 yX3_isPlace yX3_isPlace, Cond.code yX3_isPlace cX3_isPlace 3 (some .boolean), Cond.methodLink RX3 88 yX3_banned, Cond.instanceMethod yX3_banned, Cond.selects RX3 yX3_banned yX3_banned, Cond.code yX3_banned cX3_banned 3 (some .boolean), Cond.methodLink RX3 91 yX3_placesOf, Cond.instanceMethod yX3_placesOf, Cond.selects RX3 yX3_placesOf yX3_placesOf, Cond.code yX3_placesOf cX3_placesOf 4 (some .int), Cond.methodLink RL 144 yL_forget, Cond.static yL_forget]
def wsL_law0_r12 : List Cond := [Cond.codeWith yL_forget cL_forget 5 (some .int) [(0, 10, 13, 13), (0, 10, 17, 15)], Cond.methodLink RL 40 yX2_forget, Cond.instanceMethod yX2_forget, Cond.selects RX2 yX2_forget yX2_forget, Cond.code yX2_forget cX2_forget 3 (some .int), Cond.methodLink RL 146 yX3_forget, Cond.instanceMethod yX3_forget, Cond.selects RX3 yX3_forget yX3_forget, Cond.code yX3_forget cX3_forget 3 (some .int), Cond.methodLink RL 147 yL_passSeasons, Cond.static yL_passSeasons, Cond.codeWith yL_passSeasons cL_passSeasons 4 (some .int) [(0, 9, 12, 29)], Cond.methodLink RL 43 yX2_passSeasons, Cond.instanceMethod yX2_passSeasons, Cond.selects RX2 yX2_passSeasons yX2_passSeasons, Cond.code yX2_passSeasons cX2_passSeasons 2 (some .int), Cond.methodLink RX2 119 yX2_needSeasons, Cond.static yX2_needSeasons, Cond.code yX2_needSeasons cX2_needSeasons 2 none, Cond.methodLink RX2 122 yX1_live, Cond.instanceMethod yX1_live, Cond.selects RX1 yX1_live yX1_live, Cond.code yX1_live cX1_live 5 none, Cond.methodLink RX1 61 yX1_welcome]
def wsL_law0_r13 : List Cond := [Cond.instanceMethod yX1_welcome, Cond.selects RX1 yX1_welcome yX1_welcome, Cond.code yX1_welcome cX1_welcome 5 (some .int), Cond.fieldLink RX1 50 "FableIndex$Book" "count" "I", Cond.methodLink RX1 53 yX1_bans, Cond.methodLink RX1 65 yX1_hush, Cond.instanceMethod yX1_hush, Cond.selects RX1 yX1_hush yX1_hush, Cond.code yX1_hush cX1_hush 2 none, Cond.methodLink RX1 68 yX1_spread, Cond.instanceMethod yX1_spread, Cond.selects RX1 yX1_spread yX1_spread, Cond.code yX1_spread cX1_spread 5 (some .boolean), Cond.methodLink RX1 72 yX1_arriving, Cond.instanceMethod yX1_arriving, Cond.selects RX1 yX1_arriving yX1_arriving, Cond.code yX1_arriving cX1_arriving 4 (some .int), Cond.methodLink RX1 75 yX1_admitted, Cond.instanceMethod yX1_admitted, Cond.selects RX1 yX1_admitted yX1_admitted, Cond.code yX1_admitted cX1_admitted 7 (some .int), Cond.fieldLink RX1 79 "FableIndex$Book" "variants" "[I", Cond.static yX2_smallestAlone, Cond.code yX2_smallestAlone cX2_smallestAlone 1 (some .int)]
def wsL_law0_r14 : List Cond := [Cond.methodLink RX2 126 yX0_all, Cond.instanceMethod yX0_all, Cond.selects RX0 yX0_all yX0_all, Cond.code yX0_all cX0_all 1 (some .int), Cond.methodLink RL 150 yX3_passSeasons, Cond.instanceMethod yX3_passSeasons, Cond.selects RX3 yX3_passSeasons yX3_passSeasons, Cond.code yX3_passSeasons cX3_passSeasons 3 (some .int), Cond.fieldLink RX3 104 "FableIndexModel" "silenced" "I", Cond.fieldLink RX3 111 "FableIndexModel" "season" "I", Cond.methodLink RX3 107 yX3_seasonOn, Cond.instanceMethod yX3_seasonOn, Cond.selects RX3 yX3_seasonOn yX3_seasonOn, Cond.code yX3_seasonOn cX3_seasonOn 6 (some .int), Cond.methodLink RX3 98 arraycopyName, Cond.native arraycopyName, Cond.static arraycopyName, Cond.initialized "java/lang/System", Cond.methodLink RX3 94 yX3_comes, Cond.instanceMethod yX3_comes, Cond.selects RX3 yX3_comes yX3_comes, Cond.code yX3_comes cX3_comes 4 (some .int), Cond.methodLink RX3 114 yX3_all, Cond.instanceMethod yX3_all]
def wsL_law0_r15 : List Cond := [Cond.selects RX3 yX3_all yX3_all, Cond.code yX3_all cX3_all 6 (some .int), Cond.methodLink RL 151 yL_moralOf, Cond.static yL_moralOf, Cond.codeWith yL_moralOf cL_moralOf 4 (some .int) [(0, 9, 12, 13)], Cond.methodLink RL 47 yX2_moralOf, Cond.instanceMethod yX2_moralOf, Cond.selects RX2 yX2_moralOf yX2_moralOf, Cond.code yX2_moralOf cX2_moralOf 2 (some .int), Cond.methodLink RL 153 yX3_moralOf, Cond.instanceMethod yX3_moralOf, Cond.selects RX3 yX3_moralOf yX3_moralOf, Cond.code yX3_moralOf cX3_moralOf 2 (some .int), Cond.methodLink RL 154 yL_beastsOf, Cond.static yL_beastsOf, Cond.codeWith yL_beastsOf cL_beastsOf 4 (some .int) [(0, 9, 12, 13)], Cond.methodLink RL 50 yX2_beastsOf, Cond.instanceMethod yX2_beastsOf, Cond.selects RX2 yX2_beastsOf yX2_beastsOf, Cond.code yX2_beastsOf cX2_beastsOf 2 (some .int), Cond.methodLink RL 156 yX3_beastsOf, Cond.instanceMethod yX3_beastsOf, Cond.selects RX3 yX3_beastsOf yX3_beastsOf, Cond.code yX3_beastsOf cX3_beastsOf 2 (some .int)]
def wsL_law0_r16 : List Cond := [Cond.methodLink RL 157 yL_hasBeast, Cond.static yL_hasBeast, Cond.codeWith yL_hasBeast cL_hasBeast 5 (some .int) [(0, 17, 20, 13)], Cond.methodLink RL 53 yX2_hasBeast, Cond.instanceMethod yX2_hasBeast, Cond.selects RX2 yX2_hasBeast yX2_hasBeast, Cond.code yX2_hasBeast cX2_hasBeast 3 (some .boolean), Cond.methodLink RL 159 yX3_hasBeast, Cond.instanceMethod yX3_hasBeast, Cond.selects RX3 yX3_hasBeast yX3_hasBeast, Cond.code yX3_hasBeast cX3_hasBeast 3 (some .boolean), Cond.methodLink RL 160 yL_homeOf, Cond.static yL_homeOf, Cond.codeWith yL_homeOf cL_homeOf 4 (some .int) [(0, 9, 12, 13)], Cond.methodLink RL 56 yX2_homeOf, Cond.instanceMethod yX2_homeOf, Cond.selects RX2 yX2_homeOf yX2_homeOf, Cond.code yX2_homeOf cX2_homeOf 2 (some .int), Cond.fieldLink RX2 130 "FableIndex$Book" "home" "[I", Cond.methodLink RL 162 yX3_homeOf, Cond.instanceMethod yX3_homeOf, Cond.selects RX3 yX3_homeOf yX3_homeOf, Cond.code yX3_homeOf cX3_homeOf 2 (some .int), Cond.methodLink RL 163 yL_parentOf]
def wsL_law0_r17 : List Cond := [Cond.static yL_parentOf, Cond.codeWith yL_parentOf cL_parentOf 4 (some .int) [(0, 9, 12, 13)], Cond.methodLink RL 59 yX2_parentOf, Cond.instanceMethod yX2_parentOf, Cond.selects RX2 yX2_parentOf yX2_parentOf, Cond.code yX2_parentOf cX2_parentOf 2 (some .int), Cond.fieldLink RX2 133 "FableIndex$Book" "parent" "[I", Cond.methodLink RL 165 yX3_parentOf, Cond.instanceMethod yX3_parentOf, Cond.selects RX3 yX3_parentOf yX3_parentOf, Cond.code yX3_parentOf cX3_parentOf 2 (some .int), Cond.methodLink RL 166 yL_variantsOf, Cond.static yL_variantsOf, Cond.codeWith yL_variantsOf cL_variantsOf 4 (some .int) [(0, 9, 12, 13)], Cond.methodLink RL 62 yX2_variantsOf, Cond.instanceMethod yX2_variantsOf, Cond.selects RX2 yX2_variantsOf yX2_variantsOf, Cond.code yX2_variantsOf cX2_variantsOf 2 (some .int), Cond.methodLink RL 168 yX3_variantsOf, Cond.instanceMethod yX3_variantsOf, Cond.selects RX3 yX3_variantsOf yX3_variantsOf, Cond.code yX3_variantsOf cX3_variantsOf 2 (some .int), Cond.methodLink RL 169 yL_valleysOf, Cond.static yL_valleysOf]
def wsL_law0_r18 : List Cond := [Cond.codeWith yL_valleysOf cL_valleysOf 4 (some .int) [(0, 9, 12, 13)], Cond.methodLink RL 65 yX2_valleysOf, Cond.instanceMethod yX2_valleysOf, Cond.selects RX2 yX2_valleysOf yX2_valleysOf, Cond.code yX2_valleysOf cX2_valleysOf 2 (some .int), Cond.methodLink RL 171 yX3_valleysOf, Cond.instanceMethod yX3_valleysOf, Cond.selects RX3 yX3_valleysOf yX3_valleysOf, Cond.code yX3_valleysOf cX3_valleysOf 2 (some .int), Cond.methodLink RL 172 yL_nearestAncestor, Cond.static yL_nearestAncestor, Cond.codeWith yL_nearestAncestor cL_nearestAncestor 5 (some .int) [(0, 10, 13, 13)], Cond.methodLink RL 68 yX2_nearestAncestor, Cond.instanceMethod yX2_nearestAncestor, Cond.selects RX2 yX2_nearestAncestor yX2_nearestAncestor, Cond.code yX2_nearestAncestor cX2_nearestAncestor 3 (some .int), Cond.fieldLink RX2 136 "FableIndex$Book" "ancestors" "[I", Cond.methodLink RX2 139 yX2_greatest, Cond.static yX2_greatest, Cond.code yX2_greatest cX2_greatest 2 (some .int), Cond.methodLink RL 174 yX3_nearestAncestor, Cond.instanceMethod yX3_nearestAncestor, Cond.selects RX3 yX3_nearestAncestor yX3_nearestAncestor, Cond.code yX3_nearestAncestor cX3_nearestAncestor 3 (some .int)]
def wsL_law0_r19 : List Cond := [Cond.methodLink RX3 120 yX3_nearest, Cond.instanceMethod yX3_nearest, Cond.selects RX3 yX3_nearest yX3_nearest, Cond.code yX3_nearest cX3_nearest 5 (some .int), Cond.methodLink RX3 117 yX3_ancestors, Cond.instanceMethod yX3_ancestors, Cond.selects RX3 yX3_ancestors yX3_ancestors, Cond.code yX3_ancestors cX3_ancestors 4 (some .int), Cond.methodLink RL 175 yL_kinship, Cond.static yL_kinship, Cond.codeWith yL_kinship cL_kinship 5 (some .int) [(0, 10, 13, 13)], Cond.methodLink RL 71 yX2_kinship, Cond.instanceMethod yX2_kinship, Cond.selects RX2 yX2_kinship yX2_kinship, Cond.code yX2_kinship cX2_kinship 3 (some .int), Cond.methodLink RL 177 yX3_kinship, Cond.instanceMethod yX3_kinship, Cond.selects RX3 yX3_kinship yX3_kinship, Cond.code yX3_kinship cX3_kinship 4 (some .int), Cond.methodLink RL 178 yL_sharedBeasts, Cond.static yL_sharedBeasts, Cond.codeWith yL_sharedBeasts cL_sharedBeasts 5 (some .int) [(0, 10, 13, 13)], Cond.methodLink RL 74 yX2_sharedBeasts, Cond.instanceMethod yX2_sharedBeasts]
def wsL_law0_r20 : List Cond := [Cond.selects RX2 yX2_sharedBeasts yX2_sharedBeasts, Cond.code yX2_sharedBeasts cX2_sharedBeasts 3 (some .int), Cond.methodLink RL 180 yX3_sharedBeasts, Cond.instanceMethod yX3_sharedBeasts, Cond.selects RX3 yX3_sharedBeasts yX3_sharedBeasts, Cond.code yX3_sharedBeasts cX3_sharedBeasts 3 (some .int), Cond.methodLink RL 181 yL_isOpen, Cond.static yL_isOpen, Cond.codeWith yL_isOpen cL_isOpen 5 (some .int) [(0, 17, 20, 13)], Cond.methodLink RL 77 yX2_isOpen, Cond.instanceMethod yX2_isOpen, Cond.selects RX2 yX2_isOpen yX2_isOpen, Cond.code yX2_isOpen cX2_isOpen 3 (some .boolean), Cond.methodLink RL 183 yX3_isOpen, Cond.instanceMethod yX3_isOpen, Cond.selects RX3 yX3_isOpen yX3_isOpen, Cond.code yX3_isOpen cX3_isOpen 3 (some .boolean), Cond.methodLink RL 184 yL_isBanned, Cond.static yL_isBanned, Cond.codeWith yL_isBanned cL_isBanned 5 (some .int) [(0, 17, 20, 13)], Cond.methodLink RL 80 yX2_isBanned, Cond.instanceMethod yX2_isBanned, Cond.selects RX2 yX2_isBanned yX2_isBanned, Cond.code yX2_isBanned cX2_isBanned 3 (some .boolean)]
def wsL_law0_r21 : List Cond := [Cond.methodLink RL 186 yX3_isBanned, Cond.instanceMethod yX3_isBanned, Cond.selects RX3 yX3_isBanned yX3_isBanned, Cond.code yX3_isBanned cX3_isBanned 3 (some .boolean), Cond.methodLink RL 187 yL_isTold, Cond.static yL_isTold, Cond.codeWith yL_isTold cL_isTold 5 (some .int) [(0, 17, 20, 13)], Cond.methodLink RL 83 yX2_isTold, Cond.instanceMethod yX2_isTold, Cond.selects RX2 yX2_isTold yX2_isTold, Cond.code yX2_isTold cX2_isTold 3 (some .boolean), Cond.methodLink RL 189 yX3_isTold, Cond.instanceMethod yX3_isTold, Cond.selects RX3 yX3_isTold yX3_isTold, Cond.code yX3_isTold cX3_isTold 3 (some .boolean), Cond.methodLink RL 190 yL_toldIn, Cond.static yL_toldIn, Cond.codeWith yL_toldIn cL_toldIn 4 (some .int) [(0, 9, 12, 13)], Cond.methodLink RL 86 yX2_toldIn, Cond.instanceMethod yX2_toldIn, Cond.selects RX2 yX2_toldIn yX2_toldIn, Cond.code yX2_toldIn cX2_toldIn 2 (some .int), Cond.methodLink RL 192 yX3_toldIn, Cond.instanceMethod yX3_toldIn]
def wsL_law0_r22 : List Cond := [Cond.selects RX3 yX3_toldIn yX3_toldIn, Cond.code yX3_toldIn cX3_toldIn 2 (some .int), Cond.methodLink RL 193 yL_allowedIn, Cond.static yL_allowedIn, Cond.codeWith yL_allowedIn cL_allowedIn 4 (some .int) [(0, 9, 12, 13)], Cond.methodLink RL 89 yX2_allowedIn, Cond.instanceMethod yX2_allowedIn, Cond.selects RX2 yX2_allowedIn yX2_allowedIn, Cond.code yX2_allowedIn cX2_allowedIn 2 (some .int), Cond.methodLink RX2 142 yX1_welcome, Cond.methodLink RL 195 yX3_allowedIn, Cond.instanceMethod yX3_allowedIn, Cond.selects RX3 yX3_allowedIn yX3_allowedIn, Cond.code yX3_allowedIn cX3_allowedIn 2 (some .int), Cond.methodLink RX3 123 yX3_allowed, Cond.instanceMethod yX3_allowed, Cond.selects RX3 yX3_allowed yX3_allowed, Cond.code yX3_allowed cX3_allowed 4 (some .int), Cond.methodLink RL 196 yL_bansOf, Cond.static yL_bansOf, Cond.codeWith yL_bansOf cL_bansOf 4 (some .int) [(0, 9, 12, 13)], Cond.methodLink RL 92 yX2_bansOf, Cond.instanceMethod yX2_bansOf, Cond.selects RX2 yX2_bansOf yX2_bansOf]
def wsL_law0_r23 : List Cond := [Cond.code yX2_bansOf cX2_bansOf 2 (some .int), Cond.methodLink RL 198 yX3_bansOf, Cond.instanceMethod yX3_bansOf, Cond.selects RX3 yX3_bansOf yX3_bansOf, Cond.code yX3_bansOf cX3_bansOf 2 (some .int), Cond.methodLink RX3 126 yX3_bansIn, Cond.instanceMethod yX3_bansIn, Cond.selects RX3 yX3_bansIn yX3_bansIn, Cond.code yX3_bansIn cX3_bansIn 2 (some .int), Cond.methodLink RL 199 yX2_fables, Cond.instanceMethod yX2_fables, Cond.selects RX2 yX2_fables yX2_fables, Cond.code yX2_fables cX2_fables 1 (some .int), Cond.methodLink RL 202 yX3_fables, Cond.instanceMethod yX3_fables, Cond.selects RX3 yX3_fables yX3_fables, Cond.code yX3_fables cX3_fables 1 (some .int), Cond.methodLink RL 203 yX2_season, Cond.instanceMethod yX2_season, Cond.selects RX2 yX2_season yX2_season, Cond.code yX2_season cX2_season 1 (some .int), Cond.methodLink RL 206 yX3_season, Cond.instanceMethod yX3_season, Cond.selects RX3 yX3_season yX3_season]
def wsL_law0_r24 : List Cond := [Cond.code yX3_season cX3_season 1 (some .int), Cond.methodLink RL 207 yX2_tellings, Cond.instanceMethod yX2_tellings, Cond.selects RX2 yX2_tellings yX2_tellings, Cond.code yX2_tellings cX2_tellings 1 (some .int), Cond.methodLink RL 210 yX3_tellings, Cond.instanceMethod yX3_tellings, Cond.selects RX3 yX3_tellings yX3_tellings, Cond.code yX3_tellings cX3_tellings 1 (some .int), Cond.methodLink RL 211 yX2_silenced, Cond.instanceMethod yX2_silenced, Cond.selects RX2 yX2_silenced yX2_silenced, Cond.code yX2_silenced cX2_silenced 1 (some .int), Cond.fieldLink RX2 148 "FableIndex$Land" "hushed" "I", Cond.methodLink RL 214 yX3_silenced, Cond.instanceMethod yX3_silenced, Cond.selects RX3 yX3_silenced yX3_silenced, Cond.code yX3_silenced cX3_silenced 1 (some .int), Cond.methodLink RL 215 yL_fablesWithMoral, Cond.static yL_fablesWithMoral, Cond.codeWith yL_fablesWithMoral cL_fablesWithMoral 4 (some .int) [(0, 9, 12, 13)], Cond.methodLink RL 95 yX2_fablesWithMoral, Cond.instanceMethod yX2_fablesWithMoral, Cond.selects RX2 yX2_fablesWithMoral yX2_fablesWithMoral]
def wsL_law0_r25 : List Cond := [Cond.code yX2_fablesWithMoral cX2_fablesWithMoral 2 (some .int), Cond.methodLink RX2 151 yX0_withMoral, Cond.instanceMethod yX0_withMoral, Cond.selects RX0 yX0_withMoral yX0_withMoral, Cond.code yX0_withMoral cX0_withMoral 4 (some .int), Cond.methodLink RL 217 yX3_fablesWithMoral, Cond.instanceMethod yX3_fablesWithMoral, Cond.selects RX3 yX3_fablesWithMoral yX3_fablesWithMoral, Cond.code yX3_fablesWithMoral cX3_fablesWithMoral 4 (some .int), Cond.methodLink RL 218 yL_fablesWithBeast, Cond.static yL_fablesWithBeast, Cond.codeWith yL_fablesWithBeast cL_fablesWithBeast 4 (some .int) [(0, 9, 12, 13)], Cond.methodLink RL 98 yX2_fablesWithBeast, Cond.instanceMethod yX2_fablesWithBeast, Cond.selects RX2 yX2_fablesWithBeast yX2_fablesWithBeast, Cond.code yX2_fablesWithBeast cX2_fablesWithBeast 2 (some .int), Cond.methodLink RX2 154 yX0_withBeast, Cond.instanceMethod yX0_withBeast, Cond.selects RX0 yX0_withBeast yX0_withBeast, Cond.code yX0_withBeast cX0_withBeast 4 (some .int), Cond.methodLink RL 220 yX3_fablesWithBeast, Cond.instanceMethod yX3_fablesWithBeast, Cond.selects RX3 yX3_fablesWithBeast yX3_fablesWithBeast, Cond.code yX3_fablesWithBeast cX3_fablesWithBeast 4 (some .int)]
def wsL_law0_r26 : List Cond := [Cond.methodLink RL 221 yX2_favouriteMoral, Cond.instanceMethod yX2_favouriteMoral, Cond.selects RX2 yX2_favouriteMoral yX2_favouriteMoral, Cond.code yX2_favouriteMoral cX2_favouriteMoral 5 (some .int), Cond.methodLink RL 224 yX3_favouriteMoral, Cond.instanceMethod yX3_favouriteMoral, Cond.selects RX3 yX3_favouriteMoral yX3_favouriteMoral, Cond.code yX3_favouriteMoral cX3_favouriteMoral 1 (some .int), Cond.methodLink RX3 129 yX3_favourite, Cond.instanceMethod yX3_favourite, Cond.selects RX3 yX3_favourite yX3_favourite, Cond.code yX3_favourite cX3_favourite 7 (some .int), Cond.methodLink RL 225 yX2_favouriteBeast, Cond.instanceMethod yX2_favouriteBeast, Cond.selects RX2 yX2_favouriteBeast yX2_favouriteBeast, Cond.code yX2_favouriteBeast cX2_favouriteBeast 5 (some .int), Cond.methodLink RL 228 yX3_favouriteBeast, Cond.instanceMethod yX3_favouriteBeast, Cond.selects RX3 yX3_favouriteBeast yX3_favouriteBeast, Cond.code yX3_favouriteBeast cX3_favouriteBeast 1 (some .int), Cond.methodLink RL 229 yL_seasonsUntil, Cond.static yL_seasonsUntil, Cond.codeWith yL_seasonsUntil cL_seasonsUntil 5 (some .int) [(0, 10, 13, 13)], Cond.methodLink RL 101 yX2_seasonsUntil]
def wsL_law0_r27 : List Cond := [Cond.instanceMethod yX2_seasonsUntil, Cond.selects RX2 yX2_seasonsUntil yX2_seasonsUntil, Cond.code yX2_seasonsUntil cX2_seasonsUntil 4 (some .int), Cond.methodLink RX2 157 yX1_become, Cond.instanceMethod yX1_become, Cond.selects RX1 yX1_become yX1_become, Cond.code yX1_become cX1_become 3 none, Cond.methodLink RL 231 yX3_seasonsUntil, Cond.instanceMethod yX3_seasonsUntil, Cond.selects RX3 yX3_seasonsUntil yX3_seasonsUntil, Cond.code yX3_seasonsUntil cX3_seasonsUntil 4 (some .int), Cond.methodLink RX3 133 yX3_keep, Cond.instanceMethod yX3_keep, Cond.selects RX3 yX3_keep yX3_keep, Cond.code yX3_keep cX3_keep 1 none, Cond.methodLink RX3 136 yX3_bringBack, Cond.instanceMethod yX3_bringBack, Cond.selects RX3 yX3_bringBack yX3_bringBack, Cond.code yX3_bringBack cX3_bringBack 1 none, Cond.methodLink RL 232 yL_tellingsAfter, Cond.static yL_tellingsAfter, Cond.codeWith yL_tellingsAfter cL_tellingsAfter 4 (some .int) [(0, 9, 12, 29)], Cond.methodLink RL 104 yX2_tellingsAfter, Cond.instanceMethod yX2_tellingsAfter]
def wsL_law0_r28 : List Cond := [Cond.selects RX2 yX2_tellingsAfter yX2_tellingsAfter, Cond.code yX2_tellingsAfter cX2_tellingsAfter 2 (some .int), Cond.methodLink RX2 161 yX2_tellingsOfTrial, Cond.instanceMethod yX2_tellingsOfTrial, Cond.selects RX2 yX2_tellingsOfTrial yX2_tellingsOfTrial, Cond.code yX2_tellingsOfTrial cX2_tellingsOfTrial 2 (some .int), Cond.methodLink RL 234 yX3_tellingsAfter, Cond.instanceMethod yX3_tellingsAfter, Cond.selects RX3 yX3_tellingsAfter yX3_tellingsAfter, Cond.code yX3_tellingsAfter cX3_tellingsAfter 2 (some .int), Cond.methodLink RX3 139 yX3_after, Cond.instanceMethod yX3_after, Cond.selects RX3 yX3_after yX3_after, Cond.code yX3_after cX3_after 3 (some .int), Cond.methodLink RL 235 yL_bestPass, Cond.static yL_bestPass, Cond.codeWith yL_bestPass cL_bestPass 4 (some .int) [(0, 9, 12, 29)], Cond.methodLink RL 107 yX2_bestPass, Cond.instanceMethod yX2_bestPass, Cond.selects RX2 yX2_bestPass yX2_bestPass, Cond.code yX2_bestPass cX2_bestPass 7 (some .int), Cond.methodLink RX2 164 yX2_tellingsWithPass, Cond.instanceMethod yX2_tellingsWithPass, Cond.selects RX2 yX2_tellingsWithPass yX2_tellingsWithPass]
def wsL_law0_r29 : List Cond := [Cond.code yX2_tellingsWithPass cX2_tellingsWithPass 4 (some .int), Cond.methodLink RL 237 yX3_bestPass, Cond.instanceMethod yX3_bestPass, Cond.selects RX3 yX3_bestPass yX3_bestPass, Cond.code yX3_bestPass cX3_bestPass 7 (some .int), Cond.methodLink RL 238 yX2_meanBeasts, Cond.instanceMethod yX2_meanBeasts, Cond.selects RX2 yX2_meanBeasts yX2_meanBeasts, Cond.code yX2_meanBeasts cX2_meanBeasts 3 (some .double), Cond.methodLink RL 242 yX3_meanBeasts, Cond.instanceMethod yX3_meanBeasts, Cond.selects RX3 yX3_meanBeasts yX3_meanBeasts, Cond.code yX3_meanBeasts cX3_meanBeasts 3 (some .double), Cond.methodLink RL 243 yX2_digest, Cond.instanceMethod yX2_digest, Cond.selects RX2 yX2_digest yX2_digest, Cond.code yX2_digest cX2_digest 4 (some .long), Cond.constantLong RX2 168 (1861), Cond.methodLink RX2 170 yX2_fables, Cond.methodLink RX2 173 yX2_mixed, Cond.static yX2_mixed, Cond.code yX2_mixed cX2_mixed 3 (some .long), Cond.constantLong RX2 236 (31), Cond.methodLink RX2 177 yX2_season]
def wsL_law0_r30 : List Cond := [Cond.methodLink RX2 179 yX2_tellings, Cond.methodLink RX2 182 yX2_silenced, Cond.methodLink RX2 185 yX2_favouriteMoral, Cond.methodLink RX2 188 yX2_favouriteBeast, Cond.methodLink RX2 191 yX2_mixedWithFable, Cond.instanceMethod yX2_mixedWithFable, Cond.selects RX2 yX2_mixedWithFable yX2_mixedWithFable, Cond.code yX2_mixedWithFable cX2_mixedWithFable 7 (some .long), Cond.methodLink RX2 197 yX2_moralOf, Cond.methodLink RX2 200 yX2_beastsOf, Cond.methodLink RX2 203 yX2_homeOf, Cond.methodLink RX2 206 yX2_parentOf, Cond.methodLink RX2 209 yX2_variantsOf, Cond.methodLink RX2 212 yX2_valleysOf, Cond.methodLink RX2 215 yX2_hasBeast, Cond.methodLink RX2 218 yX2_isTold, Cond.methodLink RX2 221 yX2_isBanned, Cond.methodLink RX2 194 yX2_mixedWithValley, Cond.instanceMethod yX2_mixedWithValley, Cond.selects RX2 yX2_mixedWithValley yX2_mixedWithValley, Cond.code yX2_mixedWithValley cX2_mixedWithValley 7 (some .long), Cond.methodLink RX2 224 yX2_toldIn, Cond.methodLink RX2 227 yX2_allowedIn, Cond.methodLink RX2 230 yX2_bansOf]
def wsL_law0_r31 : List Cond := [Cond.methodLink RX2 233 yX2_isOpen, Cond.methodLink RL 247 yX3_digest, Cond.instanceMethod yX3_digest, Cond.selects RX3 yX3_digest yX3_digest, Cond.code yX3_digest cX3_digest 10 (some .long), Cond.constantLong RX3 142 (1861), Cond.constantLong RX3 144 (31), Cond.methodLink RX3 146 yX3_one, Cond.static yX3_one, Cond.code yX3_one cX3_one 1 (some .int)]
def wsL_law0 : List Cond := (wsL_law0_r1 ++ (wsL_law0_r2 ++ (wsL_law0_r3 ++ (wsL_law0_r4 ++ (wsL_law0_r5 ++ (wsL_law0_r6 ++ (wsL_law0_r7 ++ (wsL_law0_r8 ++ (wsL_law0_r9 ++ (wsL_law0_r10 ++ (wsL_law0_r11 ++ (wsL_law0_r12 ++ (wsL_law0_r13 ++ (wsL_law0_r14 ++ (wsL_law0_r15 ++ (wsL_law0_r16 ++ (wsL_law0_r17 ++ (wsL_law0_r18 ++ (wsL_law0_r19 ++ (wsL_law0_r20 ++ (wsL_law0_r21 ++ (wsL_law0_r22 ++ (wsL_law0_r23 ++ (wsL_law0_r24 ++ (wsL_law0_r25 ++ (wsL_law0_r26 ++ (wsL_law0_r27 ++ (wsL_law0_r28 ++ (wsL_law0_r29 ++ (wsL_law0_r30 ++ wsL_law0_r31)))))))))))))))))))))))))))))) ++ wsX20 ++ wsX30 ++ wsX00 ++ wsX10 ++ ([] : List Cond)
abbrev vwCl : List vw_C := [(RX0, TX0, 7), (RX1, TX1, 7), (RX2, TX2, 4), (RX3, TX3, 14)]
end
section

section ZLIB
variable {p : Program} {l : Launch} {e : Env} {R : Room} {s : State} {m : MethodId} {args : Array Value} {below : List Frame} {meth : Method} {c : Code} {D : va_G} {nL : Nat} {G A : Nat → Prop} {Q : State → Prop} {ws : va_W} {lv : List (Nat × Value)} {cells slots pc : Nat} {st : List Value} {cc : ByteArray} {ret : Option FieldType} {Ts : List Cond} {own : String} {tys : List (ClassId × FieldType)}
/-- what holds at a method's start, beside its own cells: the classes, the text constants and words that aren't a method's own, the statics of Throwable -/
def z_nests : List (String × Nat × MethodName × String) := [("FableIndex$Land", 57, ⟨"FableIndex", "size", "(I)I"⟩, "FableIndex"), ("FableIndex$Book", 34, ⟨"FableIndex", "has", "(II)Z"⟩, "FableIndex"), ("FableIndex$Land", 43, ⟨"FableIndex", "has", "(II)Z"⟩, "FableIndex"), ("FableIndex$Land", 34, ⟨"FableIndex", "turned", "(II)I"⟩, "FableIndex"), ("FableIndex$Land", 82, ⟨"FableIndex", "smallestAlone", "(I)I"⟩, "FableIndex")]
def z_IOB : String := "java/lang/IndexOutOfBoundsException"
def z_ISE : String := "java/lang/IllegalStateException"
def z_IAE : String := "java/lang/IllegalArgumentException"
def z_casts : List (String × String) := [("java/lang/IndexOutOfBoundsException", "java/lang/IndexOutOfBoundsException"), ("java/lang/IllegalStateException", "java/lang/IllegalStateException"), ("java/lang/IllegalArgumentException", "java/lang/IllegalArgumentException")]
def z_ncs : List (String × String) := [("java/lang/IllegalStateException", "java/lang/IndexOutOfBoundsException"), ("java/lang/IllegalArgumentException", "java/lang/IndexOutOfBoundsException"), ("java/lang/IndexOutOfBoundsException", "java/lang/IllegalStateException"), ("java/lang/IndexOutOfBoundsException", "java/lang/IllegalArgumentException")]
def z_strs : List (Nat × String) := [(240, "no such fable"), (247, "no such beast"), (249, "no such valley"), (245, "no such moral"), (243, "there are 20 fables"), (60, "the fable has this beast"), (68, "the fable has a variant"), (74, "the fable has not the beast that goes"), (76, "the fable has the beast that comes"), (87, "a pass lies between two valleys"), (106, "the fable is told there"), (112, "the fable is banned there"), (117, "the fable is not told there"), (251, "too few seasons or too many")]
def z_decls : List MethodName := [⟨"java/lang/RuntimeException", "<init>", "(Ljava/lang/String;)V"⟩, ⟨"java/lang/Exception", "<init>", "(Ljava/lang/String;)V"⟩, ⟨"java/lang/Throwable", "<init>", "(Ljava/lang/String;)V"⟩]
def z_E (l : Launch) (G : Nat → Prop) (D : va_G) (tys : List (ClassId × FieldType)) (U : State) : Prop :=
  va_K D vwCl tys U ∧ l.stackTraces = false ∧ (∀ q : Nat, U.heap.size ≤ q → G q) ∧ (∀ q ∈ z_nests, va_Nw (.methodLinkNest q.1 q.2.1 q.2.2.1 q.2.2.2) U) ∧ ((∀ q ∈ z_casts, va_Nw (.castable q.1 q.2) U) ∧ ∀ q ∈ z_decls, va_Nw (.declares q) U) ∧ (∀ q ∈ z_ncs, va_Nc q.1 q.2 U) ∧ (∀ q ∈ z_strs, ∃ sa, vk_R "FableIndex" q.1 q.2 sa U) ∧
  vx_Zq Bundle.tN "UNASSIGNED_STACK" Bundle.steD G U U.heap ∧ vx_Zq Bundle.tN "SUPPRESSED_SENTINEL" Bundle.listD G U U.heap
theorem z_E.step {U t : State} (h : z_E l G D tys U) (hW : U.WarmedH t.vm) (hsz : U.heap.size ≤ t.heap.size) (hk : ∀ q, q < U.heap.size → ¬ G q → t.heap[q]? = U.heap[q]?) : z_E l G D tys t := by
  obtain ⟨h1, h0, h2, h3, h4, h5, h6, h7, h8⟩ := h
  exact ⟨va_K.moved hW.alike h1, h0, fun q hq => h2 q (Nat.le_trans hsz hq), fun q hq => va_Nw.warmM hW (h3 q hq), ⟨fun q hq => va_Nw.warmC hW (h4.1 q hq), fun q hq => va_Nw.warmD hW (h4.2 q hq)⟩, fun q hq => va_Nc.moved hW.alike (h5 q hq), fun q hq => (h6 q hq).elim (fun sa h => ⟨sa, vk_R.warm hW h⟩), vx_Zq.moved hW.alike (h7.kept hk), vx_Zq.moved hW.alike (h8.kept hk)⟩
theorem z_E.calling {U : State} (h : z_E l G D tys U) (g : JFrame) (mk : MethodId) (a : Array Value) : z_E l G D tys (U.calling g mk a) := h.step (State.WarmedH.refl U) (Nat.le_refl _) (fun _ _ _ => rfl)
/-- the machine, the method and its words, the classes: what stays all through a method -/
def z_K (p : Program) (l : Launch) (s : State) (m : MethodId) (args : Array Value) (meth : Method) (c : Code) (G A : Nat → Prop) (D : va_G) (tys : List (ClassId × FieldType)) (cc : ByteArray) (nL : Nat) (ret : Option FieldType) (Ts : List Cond) (own : String) : Prop :=
  p.tables.exec = Jvm.exec ∧ c.code = cc ∧ c.maxLocals = nL ∧ s.vm.findClass own = some m.cls ∧ (∀ w ∈ Ts, w.before args s = true) ∧ va_K D vwCl tys s ∧ meth.sig.returnType = ret ∧ meth.locks = false ∧ z_E l G D tys s ∧ (∀ q, A q → G q) ∧ (∀ q : Nat, s.heap.size ≤ q → A q)
/-- the machine comes to Q from every heap that holds the cells ws, at pc, with locals lv and stack st -/
def Z (p : Program) (l : Launch) (e : Env) (R : Room) (s : State) (m : MethodId) (args : Array Value) (below : List Frame) (meth : Method) (c : Code) (D : va_G) (nL : Nat) (G A : Nat → Prop) (Q : State → Prop) (ws : va_W) (lv : List (Nat × Value)) (cells slots pc : Nat) (st : List Value) : Prop :=
  ∀ (H : Heap) (locs : List Loc) (ls : Array Slot), va_P D vwCl ws H → va_D G ws → va_S A s.heap H locs → lv_has ls nL lv → W p l e R s m args below meth c H locs cells slots Q (F0 m pc ls st)
/-- the same, with q thrown over the frame -/
def ZX (p : Program) (l : Launch) (e : Env) (R : Room) (s : State) (m : MethodId) (args : Array Value) (below : List Frame) (meth : Method) (c : Code) (D : va_G) (nL : Nat) (G A : Nat → Prop) (Q : State → Prop) (ws : va_W) (lv : List (Nat × Value)) (cells slots pc : Nat) (E : String) : Prop :=
  ∀ (H : Heap) (locs : List Loc) (ls : Array Slot) (rest : List Value) (q : Addr) (ce : Cell), va_P D vwCl ws H → va_D G ws → va_S A s.heap H locs → lv_has ls nL lv → H[q]? = some ce → ce.vm = .none → s.vm.findClass E = some ce.cls → vx_W p l e R s m args below meth c H locs cells slots Q (F0 m pc ls rest) q
theorem z_lv {lv' : List (Nat × Value)} (ks : List Nat) (h : lv_pick lv ks = lv') (k : Z p l e R s m args below meth c D nL G A Q ws lv' cells slots pc st) : Z p l e R s m args below meth c D nL G A Q ws lv cells slots pc st := fun H locs ls hP hD hS hl => k H locs ls hP hD hS (lv_sub hl ks h)
theorem z_widen {k n : Nat} (h1 : cells ≤ k) (h2 : slots ≤ n) (kk : Z p l e R s m args below meth c D nL G A Q ws lv k n pc st) : Z p l e R s m args below meth c D nL G A Q ws lv cells slots pc st := fun H locs ls hP hD hS hl => W.widen h1 h2 (kk H locs ls hP hD hS hl)
theorem z_sub {ws' : va_W} (is : List Nat) (hn : va_nd is = true) (h : is.map (fun i => ws[i]?) = ws'.map some) (k : Z p l e R s m args below meth c D nL G A Q ws' lv cells slots pc st) : Z p l e R s m args below meth c D nL G A Q ws lv cells slots pc st := fun H locs ls hP hD hS hl => k H locs ls (hP.sub is (by
  have : is.filterMap (fun i => ws[i]?) = (is.map (fun i => ws[i]?)).filterMap id := by rw [List.filterMap_map]; rfl
  rw [this, h, List.filterMap_map]; exact List.filterMap_some)) (hD.sub is hn h) hS hl

theorem z_iconst (K : z_K p l s m args meth c G A D tys cc nL ret Ts own) {n : Int} {v : Int32} (hdg : decode cc pc = .ok (.iconst n, 1)) (hv : Int32.ofInt n = v) (kk : Z p l e R s m args below meth c D nL G A Q ws lv cells slots (pc + 1) (.int v :: st)) : Z p l e R s m args below meth c D nL G A Q ws lv cells slots pc st := fun H locs ls hP hD hS hl => lv_iconst K.1 K.2.1 hdg hv (kk H locs ls hP hD hS hl)
theorem z_bipush (K : z_K p l s m args meth c G A D tys cc nL ret Ts own) {n : Int} {v : Int32} (hdg : decode cc pc = .ok (.bipush n, 2)) (hv : (Int8.ofInt n).toInt32 = v) (kk : Z p l e R s m args below meth c D nL G A Q ws lv cells slots (pc + 2) (.int v :: st)) : Z p l e R s m args below meth c D nL G A Q ws lv cells slots pc st := fun H locs ls hP hD hS hl => lv_bipush K.1 K.2.1 hdg hv (kk H locs ls hP hD hS hl)
theorem z_lconst (K : z_K p l s m args meth c G A D tys cc nL ret Ts own) {n : Fin 2} {v : Int64} (hdg : decode cc pc = .ok (.lconst n, 1)) (hv : Int64.ofNat (n : Nat) = v) (kk : Z p l e R s m args below meth c D nL G A Q ws lv cells slots (pc + 1) (.long v :: st)) : Z p l e R s m args below meth c D nL G A Q ws lv cells slots pc st := fun H locs ls hP hD hS hl => lv_lconst K.1 K.2.1 hdg hv (kk H locs ls hP hD hS hl)
theorem z_ldc (K : z_K p l s m args meth c G A D tys cc nL ret Ts own) {index : Nat} {v : Int32} (hdg : decode cc pc = .ok (.ldc index, 2)) (hw : Cond.constant own index v ∈ Ts) (kk : Z p l e R s m args below meth c D nL G A Q ws lv cells slots (pc + 2) (.int v :: st)) : Z p l e R s m args below meth c D nL G A Q ws lv cells slots pc st := fun H locs ls hP hD hS hl => lv_ldc K.1 K.2.1 K.2.2.2.1 (K.2.2.2.2.1 _ hw) hdg (kk H locs ls hP hD hS hl)
theorem z_ldcw (K : z_K p l s m args meth c G A D tys cc nL ret Ts own) {index : Nat} {v : Int32} (hdg : decode cc pc = .ok (.ldc_w index, 3)) (hw : Cond.constant own index v ∈ Ts) (kk : Z p l e R s m args below meth c D nL G A Q ws lv cells slots (pc + 3) (.int v :: st)) : Z p l e R s m args below meth c D nL G A Q ws lv cells slots pc st := fun H locs ls hP hD hS hl => lv_ldcw K.1 K.2.1 K.2.2.2.1 (K.2.2.2.2.1 _ hw) hdg (kk H locs ls hP hD hS hl)
theorem z_ldc2 (K : z_K p l s m args meth c G A D tys cc nL ret Ts own) {index : Nat} {v : Int64} (hdg : decode cc pc = .ok (.ldc2_w index, 3)) (hw : Cond.constantLong own index v ∈ Ts) (kk : Z p l e R s m args below meth c D nL G A Q ws lv cells slots (pc + 3) (.long v :: st)) : Z p l e R s m args below meth c D nL G A Q ws lv cells slots pc st := fun H locs ls hP hD hS hl => lv_ldc2 K.1 K.2.1 K.2.2.2.1 (K.2.2.2.2.1 _ hw) hdg (kk H locs ls hP hD hS hl)
theorem z_iload_n (K : z_K p l s m args meth c G A D tys cc nL ret Ts own) (j : Nat) {k : Fin 4} {x : Int32} (hdg : decode cc pc = .ok (.iload_n k, 1)) (hv : lv[j]? = some ((k : Nat), .int x)) (kk : Z p l e R s m args below meth c D nL G A Q ws lv cells slots (pc + 1) (.int x :: st)) : Z p l e R s m args below meth c D nL G A Q ws lv cells slots pc st := fun H locs ls hP hD hS hl => lv_iload_n K.1 K.2.1 hdg rfl (lv_at hl j hv) (kk H locs ls hP hD hS hl)
theorem z_iload (K : z_K p l s m args meth c G A D tys cc nL ret Ts own) (j : Nat) {i : Nat} {x : Int32} (hdg : decode cc pc = .ok (.iload i, 2)) (hv : lv[j]? = some (i, .int x)) (kk : Z p l e R s m args below meth c D nL G A Q ws lv cells slots (pc + 2) (.int x :: st)) : Z p l e R s m args below meth c D nL G A Q ws lv cells slots pc st := fun H locs ls hP hD hS hl => lv_iload K.1 K.2.1 hdg (lv_at hl j hv) (kk H locs ls hP hD hS hl)
theorem z_lload_n (K : z_K p l s m args meth c G A D tys cc nL ret Ts own) (j : Nat) {k : Fin 4} {x : Int64} (hdg : decode cc pc = .ok (.lload_n k, 1)) (hv : lv[j]? = some ((k : Nat), .long x)) (kk : Z p l e R s m args below meth c D nL G A Q ws lv cells slots (pc + 1) (.long x :: st)) : Z p l e R s m args below meth c D nL G A Q ws lv cells slots pc st := fun H locs ls hP hD hS hl => lv_lload_n K.1 K.2.1 hdg rfl (lv_at hl j hv) (kk H locs ls hP hD hS hl)
theorem z_lload (K : z_K p l s m args meth c G A D tys cc nL ret Ts own) (j : Nat) {i : Nat} {x : Int64} (hdg : decode cc pc = .ok (.lload i, 2)) (hv : lv[j]? = some (i, .long x)) (kk : Z p l e R s m args below meth c D nL G A Q ws lv cells slots (pc + 2) (.long x :: st)) : Z p l e R s m args below meth c D nL G A Q ws lv cells slots pc st := fun H locs ls hP hD hS hl => lv_lload K.1 K.2.1 hdg (lv_at hl j hv) (kk H locs ls hP hD hS hl)
theorem z_dload_n (K : z_K p l s m args meth c G A D tys cc nL ret Ts own) (j : Nat) {k : Fin 4} {x : UInt64} (hdg : decode cc pc = .ok (.dload_n k, 1)) (hv : lv[j]? = some ((k : Nat), .double x)) (kk : Z p l e R s m args below meth c D nL G A Q ws lv cells slots (pc + 1) (.double x :: st)) : Z p l e R s m args below meth c D nL G A Q ws lv cells slots pc st := fun H locs ls hP hD hS hl => lv_dload_n K.1 K.2.1 hdg rfl (lv_at hl j hv) (kk H locs ls hP hD hS hl)
theorem z_dload (K : z_K p l s m args meth c G A D tys cc nL ret Ts own) (j : Nat) {i : Nat} {x : UInt64} (hdg : decode cc pc = .ok (.dload i, 2)) (hv : lv[j]? = some (i, .double x)) (kk : Z p l e R s m args below meth c D nL G A Q ws lv cells slots (pc + 2) (.double x :: st)) : Z p l e R s m args below meth c D nL G A Q ws lv cells slots pc st := fun H locs ls hP hD hS hl => lv_dload K.1 K.2.1 hdg (lv_at hl j hv) (kk H locs ls hP hD hS hl)
theorem z_aload_n (K : z_K p l s m args meth c G A D tys cc nL ret Ts own) (j : Nat) {k : Fin 4} {x : Nat} (hdg : decode cc pc = .ok (.aload_n k, 1)) (hv : lv[j]? = some ((k : Nat), .ref x)) (kk : Z p l e R s m args below meth c D nL G A Q ws lv cells slots (pc + 1) (.ref x :: st)) : Z p l e R s m args below meth c D nL G A Q ws lv cells slots pc st := fun H locs ls hP hD hS hl => lv_aload_n K.1 K.2.1 hdg rfl (lv_at hl j hv) (kk H locs ls hP hD hS hl)
theorem z_aload (K : z_K p l s m args meth c G A D tys cc nL ret Ts own) (j : Nat) {i : Nat} {x : Nat} (hdg : decode cc pc = .ok (.aload i, 2)) (hv : lv[j]? = some (i, .ref x)) (kk : Z p l e R s m args below meth c D nL G A Q ws lv cells slots (pc + 2) (.ref x :: st)) : Z p l e R s m args below meth c D nL G A Q ws lv cells slots pc st := fun H locs ls hP hD hS hl => lv_aload K.1 K.2.1 hdg (lv_at hl j hv) (kk H locs ls hP hD hS hl)
theorem z_istore_n (K : z_K p l s m args meth c G A D tys cc nL ret Ts own) {k : Fin 4} {x : Int32} {lv' : List (Nat × Value)} (hdg : decode cc pc = .ok (.istore_n k, 1)) (hn : (k : Nat) < nL) (hf : ((k : Nat), Value.int x) :: lv.filter (fun q => !(q.1 == (k : Nat)) && !(q.1 + 1 == (k : Nat) && q.2.category == 2)) = lv') (kk : Z p l e R s m args below meth c D nL G A Q ws lv' cells slots (pc + 1) st) : Z p l e R s m args below meth c D nL G A Q ws lv cells slots pc (.int x :: st) := fun H locs ls hP hD hS hl => lv_istore_n K.1 K.2.1 hdg rfl hl hn hf (fun ls9 h9 => kk H locs ls9 hP hD hS h9)
theorem z_istore (K : z_K p l s m args meth c G A D tys cc nL ret Ts own) {i : Nat} {x : Int32} {lv' : List (Nat × Value)} (hdg : decode cc pc = .ok (.istore i, 2)) (hn : i < nL) (hf : (i, Value.int x) :: lv.filter (fun q => !(q.1 == i) && !(q.1 + 1 == i && q.2.category == 2)) = lv') (kk : Z p l e R s m args below meth c D nL G A Q ws lv' cells slots (pc + 2) st) : Z p l e R s m args below meth c D nL G A Q ws lv cells slots pc (.int x :: st) := fun H locs ls hP hD hS hl => lv_istore K.1 K.2.1 hdg hl hn hf (fun ls9 h9 => kk H locs ls9 hP hD hS h9)
theorem z_lstore_n (K : z_K p l s m args meth c G A D tys cc nL ret Ts own) {k : Fin 4} {x : Int64} {lv' : List (Nat × Value)} (hdg : decode cc pc = .ok (.lstore_n k, 1)) (hn : (k : Nat) + 1 < nL) (hf : ((k : Nat), Value.long x) :: lv.filter (fun q => !(q.1 == (k : Nat)) && (!(q.1 == (k : Nat) + 1) && !(q.1 + 1 == (k : Nat) && q.2.category == 2))) = lv') (kk : Z p l e R s m args below meth c D nL G A Q ws lv' cells slots (pc + 1) st) : Z p l e R s m args below meth c D nL G A Q ws lv cells slots pc (.long x :: st) := fun H locs ls hP hD hS hl => lv_lstore_n K.1 K.2.1 hdg rfl hl hn hf (fun ls9 h9 => kk H locs ls9 hP hD hS h9)
theorem z_lstore (K : z_K p l s m args meth c G A D tys cc nL ret Ts own) {i : Nat} {x : Int64} {lv' : List (Nat × Value)} (hdg : decode cc pc = .ok (.lstore i, 2)) (hn : i + 1 < nL) (hf : (i, Value.long x) :: lv.filter (fun q => !(q.1 == i) && (!(q.1 == i + 1) && !(q.1 + 1 == i && q.2.category == 2))) = lv') (kk : Z p l e R s m args below meth c D nL G A Q ws lv' cells slots (pc + 2) st) : Z p l e R s m args below meth c D nL G A Q ws lv cells slots pc (.long x :: st) := fun H locs ls hP hD hS hl => lv_lstore K.1 K.2.1 hdg hl hn hf (fun ls9 h9 => kk H locs ls9 hP hD hS h9)
theorem z_dstore_n (K : z_K p l s m args meth c G A D tys cc nL ret Ts own) {k : Fin 4} {x : UInt64} {lv' : List (Nat × Value)} (hdg : decode cc pc = .ok (.dstore_n k, 1)) (hn : (k : Nat) + 1 < nL) (hf : ((k : Nat), Value.double x) :: lv.filter (fun q => !(q.1 == (k : Nat)) && (!(q.1 == (k : Nat) + 1) && !(q.1 + 1 == (k : Nat) && q.2.category == 2))) = lv') (kk : Z p l e R s m args below meth c D nL G A Q ws lv' cells slots (pc + 1) st) : Z p l e R s m args below meth c D nL G A Q ws lv cells slots pc (.double x :: st) := fun H locs ls hP hD hS hl => lv_dstore_n K.1 K.2.1 hdg rfl hl hn hf (fun ls9 h9 => kk H locs ls9 hP hD hS h9)
theorem z_dstore (K : z_K p l s m args meth c G A D tys cc nL ret Ts own) {i : Nat} {x : UInt64} {lv' : List (Nat × Value)} (hdg : decode cc pc = .ok (.dstore i, 2)) (hn : i + 1 < nL) (hf : (i, Value.double x) :: lv.filter (fun q => !(q.1 == i) && (!(q.1 == i + 1) && !(q.1 + 1 == i && q.2.category == 2))) = lv') (kk : Z p l e R s m args below meth c D nL G A Q ws lv' cells slots (pc + 2) st) : Z p l e R s m args below meth c D nL G A Q ws lv cells slots pc (.double x :: st) := fun H locs ls hP hD hS hl => lv_dstore K.1 K.2.1 hdg hl hn hf (fun ls9 h9 => kk H locs ls9 hP hD hS h9)
theorem z_astore_n (K : z_K p l s m args meth c G A D tys cc nL ret Ts own) {k : Fin 4} {x : Nat} {lv' : List (Nat × Value)} (hdg : decode cc pc = .ok (.astore_n k, 1)) (hn : (k : Nat) < nL) (hf : ((k : Nat), Value.ref x) :: lv.filter (fun q => !(q.1 == (k : Nat)) && !(q.1 + 1 == (k : Nat) && q.2.category == 2)) = lv') (kk : Z p l e R s m args below meth c D nL G A Q ws lv' cells slots (pc + 1) st) : Z p l e R s m args below meth c D nL G A Q ws lv cells slots pc (.ref x :: st) := fun H locs ls hP hD hS hl => lv_astore_n K.1 K.2.1 hdg rfl hl hn hf (fun ls9 h9 => kk H locs ls9 hP hD hS h9)
theorem z_astore (K : z_K p l s m args meth c G A D tys cc nL ret Ts own) {i : Nat} {x : Nat} {lv' : List (Nat × Value)} (hdg : decode cc pc = .ok (.astore i, 2)) (hn : i < nL) (hf : (i, Value.ref x) :: lv.filter (fun q => !(q.1 == i) && !(q.1 + 1 == i && q.2.category == 2)) = lv') (kk : Z p l e R s m args below meth c D nL G A Q ws lv' cells slots (pc + 2) st) : Z p l e R s m args below meth c D nL G A Q ws lv cells slots pc (.ref x :: st) := fun H locs ls hP hD hS hl => lv_astore K.1 K.2.1 hdg hl hn hf (fun ls9 h9 => kk H locs ls9 hP hD hS h9)
theorem z_iinc (K : z_K p l s m args meth c G A D tys cc nL ret Ts own) (j : Nat) {i : Nat} {n : Int} {x v : Int32} {lv' : List (Nat × Value)} (hdg : decode cc pc = .ok (.iinc i n, 3)) (hv : lv[j]? = some (i, .int x)) (hx : x + Int32.ofInt n = v) (hn : i < nL) (hf : (i, Value.int v) :: lv.filter (fun q => !(q.1 == i) && !(q.1 + 1 == i && q.2.category == 2)) = lv') (kk : Z p l e R s m args below meth c D nL G A Q ws lv' cells slots (pc + 3) st) : Z p l e R s m args below meth c D nL G A Q ws lv cells slots pc st := fun H locs ls hP hD hS hl => lv_iinc K.1 K.2.1 hdg hl (k := j) hv hx hn hf (fun ls9 h9 => kk H locs ls9 hP hD hS h9)
theorem z_iadd (K : z_K p l s m args meth c G A D tys cc nL ret Ts own) {x y : Int32} (hdg : decode cc pc = .ok (.iadd, 1)) (kk : Z p l e R s m args below meth c D nL G A Q ws lv cells slots (pc + 1) (.int (x + y) :: st)) : Z p l e R s m args below meth c D nL G A Q ws lv cells slots pc (.int y :: .int x :: st) := fun H locs ls hP hD hS hl => lv_iadd K.1 K.2.1 hdg (kk H locs ls hP hD hS hl)
theorem z_isub (K : z_K p l s m args meth c G A D tys cc nL ret Ts own) {x y : Int32} (hdg : decode cc pc = .ok (.isub, 1)) (kk : Z p l e R s m args below meth c D nL G A Q ws lv cells slots (pc + 1) (.int (x - y) :: st)) : Z p l e R s m args below meth c D nL G A Q ws lv cells slots pc (.int y :: .int x :: st) := fun H locs ls hP hD hS hl => lv_isub K.1 K.2.1 hdg (kk H locs ls hP hD hS hl)
theorem z_imul (K : z_K p l s m args meth c G A D tys cc nL ret Ts own) {x y : Int32} (hdg : decode cc pc = .ok (.imul, 1)) (kk : Z p l e R s m args below meth c D nL G A Q ws lv cells slots (pc + 1) (.int (x * y) :: st)) : Z p l e R s m args below meth c D nL G A Q ws lv cells slots pc (.int y :: .int x :: st) := fun H locs ls hP hD hS hl => lv_imul K.1 K.2.1 hdg (kk H locs ls hP hD hS hl)
theorem z_ior (K : z_K p l s m args meth c G A D tys cc nL ret Ts own) {x y : Int32} (hdg : decode cc pc = .ok (.ior, 1)) (kk : Z p l e R s m args below meth c D nL G A Q ws lv cells slots (pc + 1) (.int (x ||| y) :: st)) : Z p l e R s m args below meth c D nL G A Q ws lv cells slots pc (.int y :: .int x :: st) := fun H locs ls hP hD hS hl => lv_ior K.1 K.2.1 hdg (kk H locs ls hP hD hS hl)
theorem z_iand (K : z_K p l s m args meth c G A D tys cc nL ret Ts own) {x y : Int32} (hdg : decode cc pc = .ok (.iand, 1)) (kk : Z p l e R s m args below meth c D nL G A Q ws lv cells slots (pc + 1) (.int (x &&& y) :: st)) : Z p l e R s m args below meth c D nL G A Q ws lv cells slots pc (.int y :: .int x :: st) := fun H locs ls hP hD hS hl => lv_iand K.1 K.2.1 hdg (kk H locs ls hP hD hS hl)
theorem z_ixor (K : z_K p l s m args meth c G A D tys cc nL ret Ts own) {x y : Int32} (hdg : decode cc pc = .ok (.ixor, 1)) (kk : Z p l e R s m args below meth c D nL G A Q ws lv cells slots (pc + 1) (.int (x ^^^ y) :: st)) : Z p l e R s m args below meth c D nL G A Q ws lv cells slots pc (.int y :: .int x :: st) := fun H locs ls hP hD hS hl => lv_ixor K.1 K.2.1 hdg (kk H locs ls hP hD hS hl)
theorem z_ishl (K : z_K p l s m args meth c G A D tys cc nL ret Ts own) {x y : Int32} (hdg : decode cc pc = .ok (.ishl, 1)) (kk : Z p l e R s m args below meth c D nL G A Q ws lv cells slots (pc + 1) (.int (x <<< (y &&& 31)) :: st)) : Z p l e R s m args below meth c D nL G A Q ws lv cells slots pc (.int y :: .int x :: st) := fun H locs ls hP hD hS hl => lv_ishl K.1 K.2.1 hdg (kk H locs ls hP hD hS hl)
theorem z_ishr (K : z_K p l s m args meth c G A D tys cc nL ret Ts own) {x y : Int32} (hdg : decode cc pc = .ok (.ishr, 1)) (kk : Z p l e R s m args below meth c D nL G A Q ws lv cells slots (pc + 1) (.int (x >>> (y &&& 31)) :: st)) : Z p l e R s m args below meth c D nL G A Q ws lv cells slots pc (.int y :: .int x :: st) := fun H locs ls hP hD hS hl => lv_ishr K.1 K.2.1 hdg (kk H locs ls hP hD hS hl)
theorem z_iushr (K : z_K p l s m args meth c G A D tys cc nL ret Ts own) {x y v : Int32} (hdg : decode cc pc = .ok (.iushr, 1)) (hv : (x.toUInt32 >>> (y.toUInt32 &&& Int32.toUInt32 31)).toInt32 = v) (kk : Z p l e R s m args below meth c D nL G A Q ws lv cells slots (pc + 1) (.int v :: st)) : Z p l e R s m args below meth c D nL G A Q ws lv cells slots pc (.int y :: .int x :: st) := fun H locs ls hP hD hS hl => lv_iushr K.1 K.2.1 hdg hv (kk H locs ls hP hD hS hl)
theorem z_ineg (K : z_K p l s m args meth c G A D tys cc nL ret Ts own) {x : Int32} (hdg : decode cc pc = .ok (.ineg, 1)) (kk : Z p l e R s m args below meth c D nL G A Q ws lv cells slots (pc + 1) (.int (-x) :: st)) : Z p l e R s m args below meth c D nL G A Q ws lv cells slots pc (.int x :: st) := fun H locs ls hP hD hS hl => lv_ineg K.1 K.2.1 hdg (kk H locs ls hP hD hS hl)
theorem z_ladd (K : z_K p l s m args meth c G A D tys cc nL ret Ts own) {x y : Int64} (hdg : decode cc pc = .ok (.ladd, 1)) (kk : Z p l e R s m args below meth c D nL G A Q ws lv cells slots (pc + 1) (.long (x + y) :: st)) : Z p l e R s m args below meth c D nL G A Q ws lv cells slots pc (.long y :: .long x :: st) := fun H locs ls hP hD hS hl => lv_ladd K.1 K.2.1 hdg (kk H locs ls hP hD hS hl)
theorem z_lmul (K : z_K p l s m args meth c G A D tys cc nL ret Ts own) {x y : Int64} (hdg : decode cc pc = .ok (.lmul, 1)) (kk : Z p l e R s m args below meth c D nL G A Q ws lv cells slots (pc + 1) (.long (x * y) :: st)) : Z p l e R s m args below meth c D nL G A Q ws lv cells slots pc (.long y :: .long x :: st) := fun H locs ls hP hD hS hl => lv_lmul K.1 K.2.1 hdg (kk H locs ls hP hD hS hl)
theorem z_i2l (K : z_K p l s m args meth c G A D tys cc nL ret Ts own) {x : Int32} (hdg : decode cc pc = .ok (.i2l, 1)) (kk : Z p l e R s m args below meth c D nL G A Q ws lv cells slots (pc + 1) (.long x.toInt64 :: st)) : Z p l e R s m args below meth c D nL G A Q ws lv cells slots pc (.int x :: st) := fun H locs ls hP hD hS hl => lv_i2l K.1 K.2.1 hdg rfl (kk H locs ls hP hD hS hl)
theorem z_i2d (K : z_K p l s m args meth c G A D tys cc nL ret Ts own) {x : Int32} (hdg : decode cc pc = .ok (.i2d, 1)) (kk : Z p l e R s m args below meth c D nL G A Q ws lv cells slots (pc + 1) (.double (FP.i2d x) :: st)) : Z p l e R s m args below meth c D nL G A Q ws lv cells slots pc (.int x :: st) := fun H locs ls hP hD hS hl => lv_i2d K.1 K.2.1 hdg (kk H locs ls hP hD hS hl)
theorem z_ddiv (K : z_K p l s m args meth c G A D tys cc nL ret Ts own) {x y : UInt64} (hdg : decode cc pc = .ok (.ddiv, 1)) (hne : vf_n64 (FP.ddiv x y)) (kk : Z p l e R s m args below meth c D nL G A Q ws lv cells slots (pc + 1) (.double (FP.ddiv x y) :: st)) : Z p l e R s m args below meth c D nL G A Q ws lv cells slots pc (.double y :: .double x :: st) := fun H locs ls hP hD hS hl => lv_ddiv K.1 K.2.1 hdg hne (kk H locs ls hP hD hS hl)
theorem z_lcmp (K : z_K p l s m args meth c G A D tys cc nL ret Ts own) {x y : Int64} (hdg : decode cc pc = .ok (.lcmp, 1)) (kk : Z p l e R s m args below meth c D nL G A Q ws lv cells slots (pc + 1) (.int (lg_cmp x y) :: st)) : Z p l e R s m args below meth c D nL G A Q ws lv cells slots pc (.long y :: .long x :: st) := fun H locs ls hP hD hS hl => W.lcmp K.1 K.2.1 hdg (kk H locs ls hP hD hS hl)
theorem z_dcmp (K : z_K p l s m args meth c G A D tys cc nL ret Ts own) {x y : UInt64} {op : CmpOp} (hdg : decode cc pc = .ok (.dcmp op, 1)) (kk : Z p l e R s m args below meth c D nL G A Q ws lv cells slots (pc + 1) (.int (Op.cmpValue (FP.dcmp x y) op) :: st)) : Z p l e R s m args below meth c D nL G A Q ws lv cells slots pc (.double y :: .double x :: st) := fun H locs ls hP hD hS hl => lv_dcmp K.1 K.2.1 hdg (kk H locs ls hP hD hS hl)
theorem z_dup (K : z_K p l s m args meth c G A D tys cc nL ret Ts own) {va : Value} (hdg : decode cc pc = .ok (.dup, 1)) (hva : va.category = 1) (kk : Z p l e R s m args below meth c D nL G A Q ws lv cells slots (pc + 1) (va :: va :: st)) : Z p l e R s m args below meth c D nL G A Q ws lv cells slots pc (va :: st) := fun H locs ls hP hD hS hl => lv_dup K.1 K.2.1 hdg hva (kk H locs ls hP hD hS hl)
theorem z_pop (K : z_K p l s m args meth c G A D tys cc nL ret Ts own) {va : Value} (hdg : decode cc pc = .ok (.pop, 1)) (hva : va.category = 1) (kk : Z p l e R s m args below meth c D nL G A Q ws lv cells slots (pc + 1) st) : Z p l e R s m args below meth c D nL G A Q ws lv cells slots pc (va :: st) := fun H locs ls hP hD hS hl => lv_pop K.1 K.2.1 hdg hva (kk H locs ls hP hD hS hl)
theorem z_goto (K : z_K p l s m args meth c G A D tys cc nL ret Ts own) {off : Int} (tgt : Nat) (hdg : decode cc pc = .ok (.goto off, 3)) (ht : (pc : Int) + off = (tgt : Int)) (kk : Z p l e R s m args below meth c D nL G A Q ws lv cells slots tgt st) : Z p l e R s m args below meth c D nL G A Q ws lv cells slots pc st := fun H locs ls hP hD hS hl => lv_goto K.1 K.2.1 hdg ht (kk H locs ls hP hD hS hl)
theorem z_if_eq (K : z_K p l s m args meth c G A D tys cc nL ret Ts own) {off : Int} {x : Int32} (tgt : Nat) (hdg : decode cc pc = .ok (.ifCond .eq off, 3)) (ht : (pc : Int) + off = (tgt : Int)) (kt : x = 0 → Z p l e R s m args below meth c D nL G A Q ws lv cells slots tgt st) (kf : ¬ x = 0 → Z p l e R s m args below meth c D nL G A Q ws lv cells slots (pc + 3) st) : Z p l e R s m args below meth c D nL G A Q ws lv cells slots pc (.int x :: st) := fun H locs ls hP hD hS hl => lv_if_eq K.1 K.2.1 hdg ht (fun h => kt h H locs ls hP hD hS hl) (fun h => kf h H locs ls hP hD hS hl)
theorem z_if_ne (K : z_K p l s m args meth c G A D tys cc nL ret Ts own) {off : Int} {x : Int32} (tgt : Nat) (hdg : decode cc pc = .ok (.ifCond .ne off, 3)) (ht : (pc : Int) + off = (tgt : Int)) (kt : ¬ x = 0 → Z p l e R s m args below meth c D nL G A Q ws lv cells slots tgt st) (kf : x = 0 → Z p l e R s m args below meth c D nL G A Q ws lv cells slots (pc + 3) st) : Z p l e R s m args below meth c D nL G A Q ws lv cells slots pc (.int x :: st) := fun H locs ls hP hD hS hl => lv_if_ne K.1 K.2.1 hdg ht (fun h => kt h H locs ls hP hD hS hl) (fun h => kf h H locs ls hP hD hS hl)
theorem z_if_lt (K : z_K p l s m args meth c G A D tys cc nL ret Ts own) {off : Int} {x : Int32} (tgt : Nat) (hdg : decode cc pc = .ok (.ifCond .lt off, 3)) (ht : (pc : Int) + off = (tgt : Int)) (kt : x < 0 → Z p l e R s m args below meth c D nL G A Q ws lv cells slots tgt st) (kf : ¬ x < 0 → Z p l e R s m args below meth c D nL G A Q ws lv cells slots (pc + 3) st) : Z p l e R s m args below meth c D nL G A Q ws lv cells slots pc (.int x :: st) := fun H locs ls hP hD hS hl => lv_if_lt K.1 K.2.1 hdg ht (fun h => kt h H locs ls hP hD hS hl) (fun h => kf h H locs ls hP hD hS hl)
theorem z_if_le (K : z_K p l s m args meth c G A D tys cc nL ret Ts own) {off : Int} {x : Int32} (tgt : Nat) (hdg : decode cc pc = .ok (.ifCond .le off, 3)) (ht : (pc : Int) + off = (tgt : Int)) (kt : x ≤ 0 → Z p l e R s m args below meth c D nL G A Q ws lv cells slots tgt st) (kf : ¬ x ≤ 0 → Z p l e R s m args below meth c D nL G A Q ws lv cells slots (pc + 3) st) : Z p l e R s m args below meth c D nL G A Q ws lv cells slots pc (.int x :: st) := fun H locs ls hP hD hS hl => lv_if_le K.1 K.2.1 hdg ht (fun h => kt h H locs ls hP hD hS hl) (fun h => kf h H locs ls hP hD hS hl)
theorem z_if_gt (K : z_K p l s m args meth c G A D tys cc nL ret Ts own) {off : Int} {x : Int32} (tgt : Nat) (hdg : decode cc pc = .ok (.ifCond .gt off, 3)) (ht : (pc : Int) + off = (tgt : Int)) (kt : 0 < x → Z p l e R s m args below meth c D nL G A Q ws lv cells slots tgt st) (kf : ¬ 0 < x → Z p l e R s m args below meth c D nL G A Q ws lv cells slots (pc + 3) st) : Z p l e R s m args below meth c D nL G A Q ws lv cells slots pc (.int x :: st) := fun H locs ls hP hD hS hl => lv_if_gt K.1 K.2.1 hdg ht (fun h => kt h H locs ls hP hD hS hl) (fun h => kf h H locs ls hP hD hS hl)
theorem z_if_ge (K : z_K p l s m args meth c G A D tys cc nL ret Ts own) {off : Int} {x : Int32} (tgt : Nat) (hdg : decode cc pc = .ok (.ifCond .ge off, 3)) (ht : (pc : Int) + off = (tgt : Int)) (kt : 0 ≤ x → Z p l e R s m args below meth c D nL G A Q ws lv cells slots tgt st) (kf : ¬ 0 ≤ x → Z p l e R s m args below meth c D nL G A Q ws lv cells slots (pc + 3) st) : Z p l e R s m args below meth c D nL G A Q ws lv cells slots pc (.int x :: st) := fun H locs ls hP hD hS hl => lv_if_ge K.1 K.2.1 hdg ht (fun h => kt h H locs ls hP hD hS hl) (fun h => kf h H locs ls hP hD hS hl)
theorem z_icmp_eq (K : z_K p l s m args meth c G A D tys cc nL ret Ts own) {off : Int} {x y : Int32} (tgt : Nat) (hdg : decode cc pc = .ok (.if_icmp .eq off, 3)) (ht : (pc : Int) + off = (tgt : Int)) (kt : x = y → Z p l e R s m args below meth c D nL G A Q ws lv cells slots tgt st) (kf : ¬ x = y → Z p l e R s m args below meth c D nL G A Q ws lv cells slots (pc + 3) st) : Z p l e R s m args below meth c D nL G A Q ws lv cells slots pc (.int y :: .int x :: st) := fun H locs ls hP hD hS hl => lv_icmp_eq K.1 K.2.1 hdg ht (fun h => kt h H locs ls hP hD hS hl) (fun h => kf h H locs ls hP hD hS hl)
theorem z_icmp_ne (K : z_K p l s m args meth c G A D tys cc nL ret Ts own) {off : Int} {x y : Int32} (tgt : Nat) (hdg : decode cc pc = .ok (.if_icmp .ne off, 3)) (ht : (pc : Int) + off = (tgt : Int)) (kt : ¬ x = y → Z p l e R s m args below meth c D nL G A Q ws lv cells slots tgt st) (kf : x = y → Z p l e R s m args below meth c D nL G A Q ws lv cells slots (pc + 3) st) : Z p l e R s m args below meth c D nL G A Q ws lv cells slots pc (.int y :: .int x :: st) := fun H locs ls hP hD hS hl => lv_icmp_ne K.1 K.2.1 hdg ht (fun h => kt h H locs ls hP hD hS hl) (fun h => kf h H locs ls hP hD hS hl)
theorem z_icmp_lt (K : z_K p l s m args meth c G A D tys cc nL ret Ts own) {off : Int} {x y : Int32} (tgt : Nat) (hdg : decode cc pc = .ok (.if_icmp .lt off, 3)) (ht : (pc : Int) + off = (tgt : Int)) (kt : x < y → Z p l e R s m args below meth c D nL G A Q ws lv cells slots tgt st) (kf : ¬ x < y → Z p l e R s m args below meth c D nL G A Q ws lv cells slots (pc + 3) st) : Z p l e R s m args below meth c D nL G A Q ws lv cells slots pc (.int y :: .int x :: st) := fun H locs ls hP hD hS hl => lv_icmp_lt K.1 K.2.1 hdg ht (fun h => kt h H locs ls hP hD hS hl) (fun h => kf h H locs ls hP hD hS hl)
theorem z_icmp_ge (K : z_K p l s m args meth c G A D tys cc nL ret Ts own) {off : Int} {x y : Int32} (tgt : Nat) (hdg : decode cc pc = .ok (.if_icmp .ge off, 3)) (ht : (pc : Int) + off = (tgt : Int)) (kt : y ≤ x → Z p l e R s m args below meth c D nL G A Q ws lv cells slots tgt st) (kf : ¬ y ≤ x → Z p l e R s m args below meth c D nL G A Q ws lv cells slots (pc + 3) st) : Z p l e R s m args below meth c D nL G A Q ws lv cells slots pc (.int y :: .int x :: st) := fun H locs ls hP hD hS hl => lv_icmp_ge K.1 K.2.1 hdg ht (fun h => kt h H locs ls hP hD hS hl) (fun h => kf h H locs ls hP hD hS hl)
theorem z_icmp_gt (K : z_K p l s m args meth c G A D tys cc nL ret Ts own) {off : Int} {x y : Int32} (tgt : Nat) (hdg : decode cc pc = .ok (.if_icmp .gt off, 3)) (ht : (pc : Int) + off = (tgt : Int)) (kt : y < x → Z p l e R s m args below meth c D nL G A Q ws lv cells slots tgt st) (kf : ¬ y < x → Z p l e R s m args below meth c D nL G A Q ws lv cells slots (pc + 3) st) : Z p l e R s m args below meth c D nL G A Q ws lv cells slots pc (.int y :: .int x :: st) := fun H locs ls hP hD hS hl => lv_icmp_gt K.1 K.2.1 hdg ht (fun h => kt h H locs ls hP hD hS hl) (fun h => kf h H locs ls hP hD hS hl)
theorem z_icmp_le (K : z_K p l s m args meth c G A D tys cc nL ret Ts own) {off : Int} {x y : Int32} (tgt : Nat) (hdg : decode cc pc = .ok (.if_icmp .le off, 3)) (ht : (pc : Int) + off = (tgt : Int)) (kt : x ≤ y → Z p l e R s m args below meth c D nL G A Q ws lv cells slots tgt st) (kf : ¬ x ≤ y → Z p l e R s m args below meth c D nL G A Q ws lv cells slots (pc + 3) st) : Z p l e R s m args below meth c D nL G A Q ws lv cells slots pc (.int y :: .int x :: st) := fun H locs ls hP hD hS hl => lv_icmp_le K.1 K.2.1 hdg ht (fun h => kt h H locs ls hP hD hS hl) (fun h => kf h H locs ls hP hD hS hl)
/-- a counter against its bound -/
theorem z_cmpN (K : z_K p l s m args meth c G A D tys cc nL ret Ts own) {off : Int} {x y : Int32} (tgt a b : Nat) (hdg : decode cc pc = .ok (.if_icmp .ge off, 3)) (ht : (pc : Int) + off = (tgt : Int)) (hx : x = nI a) (hy : y = nI b) (ha : a < 2 ^ 31) (hb : b < 2 ^ 31) (kt : b ≤ a → Z p l e R s m args below meth c D nL G A Q ws lv cells slots tgt st) (kf : a < b → Z p l e R s m args below meth c D nL G A Q ws lv cells slots (pc + 3) st) : Z p l e R s m args below meth c D nL G A Q ws lv cells slots pc (.int y :: .int x :: st) := by
  subst hx hy
  exact z_icmp_ge K tgt hdg ht (fun h => kt ((nI_leI hb ha).mp h)) (fun h => kf (Nat.lt_of_not_le (fun q => h ((nI_leI hb ha).mpr q))))
theorem z_dup2 (K : z_K p l s m args meth c G A D tys cc nL ret Ts own) {va vb : Value} (hdg : decode cc pc = .ok (.dup2, 1)) (hva : va.category = 1) (hvb : vb.category = 1) (kk : Z p l e R s m args below meth c D nL G A Q ws lv cells slots (pc + 1) (va :: vb :: va :: vb :: st)) : Z p l e R s m args below meth c D nL G A Q ws lv cells slots pc (va :: vb :: st) := fun H locs ls hP hD hS hl => lv_dup2_11 K.1 K.2.1 hdg hva hvb (kk H locs ls hP hD hS hl)
/-- a truth as a number -/
def z_b (b : Bool) : Int32 := if b then 1 else 0
theorem z_b0 {b : Bool} : z_b b = 0 ↔ b = false := by cases b <;> decide
theorem z_b1 {b : Bool} : ¬ z_b b = 0 ↔ b = true := by cases b <;> decide
theorem z_if_eqB (K : z_K p l s m args meth c G A D tys cc nL ret Ts own) {off : Int} {b : Bool} (tgt : Nat) (hdg : decode cc pc = .ok (.ifCond .eq off, 3)) (ht : (pc : Int) + off = (tgt : Int)) (kt : b = false → Z p l e R s m args below meth c D nL G A Q ws lv cells slots tgt st) (kf : b = true → Z p l e R s m args below meth c D nL G A Q ws lv cells slots (pc + 3) st) : Z p l e R s m args below meth c D nL G A Q ws lv cells slots pc (.int (z_b b) :: st) := z_if_eq K tgt hdg ht (fun h => kt (z_b0.mp h)) (fun h => kf (z_b1.mp h))
theorem z_if_neB (K : z_K p l s m args meth c G A D tys cc nL ret Ts own) {off : Int} {b : Bool} (tgt : Nat) (hdg : decode cc pc = .ok (.ifCond .ne off, 3)) (ht : (pc : Int) + off = (tgt : Int)) (kt : b = true → Z p l e R s m args below meth c D nL G A Q ws lv cells slots tgt st) (kf : b = false → Z p l e R s m args below meth c D nL G A Q ws lv cells slots (pc + 3) st) : Z p l e R s m args below meth c D nL G A Q ws lv cells slots pc (.int (z_b b) :: st) := z_if_ne K tgt hdg ht (fun h => kt (z_b1.mp h)) (fun h => kf (z_b0.mp h))
/-- fields -/
theorem z_get (K : z_K p l s m args meth c G A D tys cc nL ret Ts own) {C ref : String} {T : u_T} {N ci index : Nat} (hin : ∀ w ∈ u_ws C T N, w ∈ Ts) (hc : vwCl[ci]? = some (C, T, N)) (q0 : Nat) {a : Nat} {fs : List Value} (he : ws[q0]? = some (a, .inr (ci, fs))) (k : Nat) (hk : k < N) (hw : Cond.fieldLink own index ref (T k).2.1 (T k).2.2.1 ∈ Ts) (hsame : (T k).1 = ref) {v : Value} (hv : fs[k]? = some v) (hdg : decode cc pc = .ok (.getfield index, 3)) (kk : Z p l e R s m args below meth c D nL G A Q ws lv cells slots (pc + 3) (v :: st)) : Z p l e R s m args below meth c D nL G A Q ws lv cells slots pc (.ref a :: st) := fun H locs ls hP hD hS hl =>
  va_get K.1 K.2.1 K.2.2.2.2.1 hin K.2.2.2.1 K.2.2.2.2.2.1 hP q0 he hc k hk (K.2.2.2.2.1 _ hw) (fun x h => by rw [← hsame]; exact h) hv hdg (kk H locs ls hP hD hS hl)
theorem z_put (K : z_K p l s m args meth c G A D tys cc nL ret Ts own) {C ref : String} {T : u_T} {N ci index : Nat} (hin : ∀ w ∈ u_ws C T N, w ∈ Ts) (hc : vwCl[ci]? = some (C, T, N)) (ty0 : Nat → FieldType) (hty : ∀ k, k < N → parseFieldDescriptor (T k).2.2.1 = some (ty0 k)) (hnm : ∀ a, a < N → ∀ b, b < N → a ≠ b → (T a).2.1 ≠ (T b).2.1) (q0 : Nat) {a : Nat} {fs : List Value} (he : ws[q0]? = some (a, .inr (ci, fs))) (k : Nat) (hk : k < N) (hw : Cond.fieldLink own index ref (T k).2.1 (T k).2.2.1 ∈ Ts) (hsame : (T k).1 = ref) (hfin : (T k).2.2.2 = false) {v : Value} (hn : narrow (ty0 k) v = v) (hfit : fits (ty0 k) v = true) (hl0 : k < fs.length) (hA : A a) {ws' : va_W} (hws : ws.set q0 (a, .inr (ci, fs.set k v)) = ws') (hdg : decode cc pc = .ok (.putfield index, 3)) (kk : Z p l e R s m args below meth c D nL G A Q ws' lv cells slots (pc + 3) st) : Z p l e R s m args below meth c D nL G A Q ws lv cells slots pc (v :: .ref a :: st) := by
  intro H locs ls hP hD hS hl
  subst hws
  have hap := va_apart (own := own) K.2.2.2.2.1 hin ty0 hty hnm K.2.2.2.2.2.1 hc
  obtain ⟨r, h1, cell, q1, q2, q3, q4⟩ := hP q0 _ he
  have hr : r = (C, T, N) := Option.some.inj (h1.symm.trans hc)
  subst hr
  obtain ⟨hSl, hfc, kC, hkC, hkind⟩ := K.2.2.2.2.2.1.1 ci _ hc
  obtain ⟨cf, kf, fi, f, hi, hsl⟩ := hSl k hk
  have hlay := K.2.2.2.2.1 _ (hin _ (u_in_lay hk))
  unfold u_lay at hlay
  rw [if_neg (by rw [hfin]; decide)] at hlay
  have hst := (u_facts hfc hkC (u_lays K.2.2.2.2.1 hin hk) hi).1
  have h6 := u_store hfc hkC hkind hlay hi (hty k hk) hn hfit
  have hi2 : s.fieldFound? ref (T k).2.1 (T k).2.2.1 = some (cf, kf, fi, f) := by rw [← hsame]; exact hi
  refine W.putK K.1 K.2.1 (f := f) ⟨K.2.2.2.1, K.2.2.2.2.1 _ hw, ⟨_, _, _, hi2⟩, hst⟩ (by rw [q2]; exact h6) q1 q3 (by rw [hsl]; exact k2_hasslot (q4 k hk)) rfl rfl hdg fun H' e1 e2 e3 => ?_
  rw [hsl] at e1 ⊢
  exact kk H' _ ls (hP.set hD he ⟨_, hc, t_OB.to (V := updV (vp_V fs) k v) ⟨_, e1, q2, q3, t_set q4 hap hk v⟩ (fun j _ => vp_updV_set hl0 v j)⟩ e3) (hD.set he) (hS.put e2 e3 hA) hl
/-- arrays of ints -/
theorem z_iald (K : z_K p l s m args meth c G A D tys cc nL ret Ts own) (q0 t0 : Nat) {a : Nat} {cA : ClassId} {n : Nat} {f : Nat → Int32} (ha : ws[q0]? = some (a, .inl (cA, n, .inl f))) (ht : tys[t0]? = some (cA, .int)) {i : Int32} (hin : vp_in i n) (hdg : decode cc pc = .ok (.iaload, 1)) {x : Int32} (hx : f i.toNatClampNeg = x) (kk : Z p l e R s m args below meth c D nL G A Q ws lv cells slots (pc + 1) (.int x :: st)) : Z p l e R s m args below meth c D nL G A Q ws lv cells slots pc (.int i :: .ref a :: st) := fun H locs ls hP hD hS hl => va_iald K.1 K.2.1 K.2.2.2.2.2.1 hP q0 t0 ha ht hin hdg (by rw [hx]; exact kk H locs ls hP hD hS hl)
theorem z_iast (K : z_K p l s m args meth c G A D tys cc nL ret Ts own) (q0 t0 : Nat) {a : Nat} {cA : ClassId} {n : Nat} {f : Nat → Int32} (ha : ws[q0]? = some (a, .inl (cA, n, .inl f))) (ht : tys[t0]? = some (cA, .int)) {i x : Int32} (hin : vp_in i n) (hdg : decode cc pc = .ok (.iastore, 1)) (hA : A a) {j : Nat} (hj : i.toNatClampNeg = j) {ws' : va_W} (hws : ws.set q0 (a, .inl (cA, n, .inl (upd f j x))) = ws') (kk : Z p l e R s m args below meth c D nL G A Q ws' lv cells slots (pc + 1) st) : Z p l e R s m args below meth c D nL G A Q ws lv cells slots pc (.int x :: .int i :: .ref a :: st) := by
  intro H locs ls hP hD hS hl
  subst hws hj
  refine W.iast K.1 K.2.1 (hP q0 _ ha) ((K.2.2.2.2.2.1.2 t0 _ ht).1 n (fun j => .int (f j))) (fun q => by cases q) (by show ¬ (i < 0 ∨ (arrV _ _ _).slots.size ≤ _); rw [arrV_size]; exact hin) rfl rfl hdg fun H1 e z oq => ?_
  refine kk H1 _ ls (hP.set hD ha ?_ oq) (hD.set ha) (hS.put z oq hA) hl
  show H1[a]? = some (vp_cell _ _)
  rw [e]
  rw [vp_cell_i, vp_cell_i, arrV_store]
  show some (arrV cA n _) = some (arrV cA n _)
  congr 2
  funext q
  by_cases hq : q = i.toNatClampNeg
  · subst hq
    simp [updV, upd]
  · simp [updV, upd, hq]
theorem z_alen (K : z_K p l s m args meth c G A D tys cc nL ret Ts own) (q0 t0 : Nat) {a : Nat} {cA : ClassId} {x : vp_A} (ha : ws[q0]? = some (a, .inl (cA, x))) {ty : FieldType} (ht : tys[t0]? = some (cA, ty)) {v : Int32} (hv : Int32.ofNat x.1 = v) (hdg : decode cc pc = .ok (.arraylength, 1)) (kk : Z p l e R s m args below meth c D nL G A Q ws lv cells slots (pc + 1) (.int v :: st)) : Z p l e R s m args below meth c D nL G A Q ws lv cells slots pc (.ref a :: st) := fun H locs ls hP hD hS hl => va_alen K.1 K.2.1 K.2.2.2.2.2.1 hP q0 t0 ha ht hv hdg (kk H locs ls hP hD hS hl)
theorem z_lald (K : z_K p l s m args meth c G A D tys cc nL ret Ts own) (q0 t0 : Nat) {a : Nat} {cA : ClassId} {n : Nat} {f : Nat → Int64} (ha : ws[q0]? = some (a, .inl (cA, n, .inr (.inl f)))) (ht : tys[t0]? = some (cA, .long)) {i : Int32} (hin : vp_in i n) (hdg : decode cc pc = .ok (.laload, 1)) {x : Int64} (hx : f i.toNatClampNeg = x) (kk : Z p l e R s m args below meth c D nL G A Q ws lv cells slots (pc + 1) (.long x :: st)) : Z p l e R s m args below meth c D nL G A Q ws lv cells slots pc (.int i :: .ref a :: st) := fun H locs ls hP hD hS hl => va_lald K.1 K.2.1 K.2.2.2.2.2.1 hP q0 t0 ha ht hin hdg (by rw [hx]; exact kk H locs ls hP hD hS hl)
theorem z_last (K : z_K p l s m args meth c G A D tys cc nL ret Ts own) (q0 t0 : Nat) {a : Nat} {cA : ClassId} {n : Nat} {f : Nat → Int64} (ha : ws[q0]? = some (a, .inl (cA, n, .inr (.inl f)))) (ht : tys[t0]? = some (cA, .long)) {i : Int32} {x : Int64} (hin : vp_in i n) (hdg : decode cc pc = .ok (.lastore, 1)) (hA : A a) {j : Nat} (hj : i.toNatClampNeg = j) {ws' : va_W} (hws : ws.set q0 (a, .inl (cA, n, .inr (.inl (vp_updL f j x)))) = ws') (kk : Z p l e R s m args below meth c D nL G A Q ws' lv cells slots (pc + 1) st) : Z p l e R s m args below meth c D nL G A Q ws lv cells slots pc (.long x :: .int i :: .ref a :: st) := by
  intro H locs ls hP hD hS hl
  subst hws hj
  refine W.last K.1 K.2.1 (hP q0 _ ha) ((K.2.2.2.2.2.1.2 t0 _ ht).1 n (fun j => .long (f j))) (fun q => by cases q) (by show ¬ (i < 0 ∨ (arrV _ _ _).slots.size ≤ _); rw [arrV_size]; exact hin) rfl rfl hdg fun H1 e z oq => ?_
  refine kk H1 _ ls (hP.set hD ha ?_ oq) (hD.set ha) (hS.put z oq hA) hl
  show H1[a]? = some (vp_cell _ _)
  rw [e]
  rw [vp_cell_l, vp_cell_l, arrV_store]
  show some (arrV cA n _) = some (arrV cA n _)
  congr 2
  funext q
  by_cases hq : q = i.toNatClampNeg
  · subst hq
    simp [updV, vp_updL]
  · simp [updV, vp_updL, hq]
/-- a counted loop: from its end back to its head -/
theorem z_down {P : Nat → Prop} (n : Nat) (h0 : P n) (hs : ∀ k, k < n → P (k + 1) → P k) : ∀ k, k ≤ n → P k := by
  have key : ∀ d k, k + d = n → P k := by
    intro d
    induction d with
    | zero => intro k hk; rw [show k = n by omega]; exact h0
    | succ d ih => intro k hk; exact hs k (by omega) (ih (k + 1) (by omega))
  exact fun k hk => key (n - k) k (by omega)
/-- some cells of a world anew -/
def z_set : va_W → List Nat → va_W → va_W
  | ws, i :: is, w :: wv => z_set (ws.set i w) is wv
  | ws, _, _ => ws
theorem z_set_mem : ∀ (is : List Nat) (wv ws : va_W), is.map (fun i => (ws[i]?).map Prod.fst) = wv.map (fun w => some w.1) → (∀ k : Nat, ((z_set ws is wv)[k]?).map Prod.fst = (ws[k]?).map Prod.fst) ∧ ∀ (k : Nat) (q : Nat × va_E), (z_set ws is wv)[k]? = some q → q ∈ wv ∨ (ws[k]? = some q ∧ k ∉ is)
  | [], wv, ws, h => by
    have e : z_set ws [] wv = ws := by cases wv <;> rfl
    rw [e]
    exact ⟨fun _ => rfl, fun k q hq => Or.inr ⟨hq, List.not_mem_nil⟩⟩
  | i :: is, [], ws, h => by simp at h
  | i :: is, w :: wv, ws, h => by
    simp only [List.map_cons, List.cons.injEq] at h
    obtain ⟨h1, h2⟩ := h
    have hkey : ∀ k : Nat, ((ws.set i w)[k]?).map Prod.fst = (ws[k]?).map Prod.fst := by
      intro k
      by_cases hk : k = i
      · subst hk
        cases hwk : ws[k]? with
        | none => rw [hwk] at h1; simp at h1
        | some e =>
          have hl := (List.getElem?_eq_some_iff.mp hwk).1
          rw [List.getElem?_set_self hl]
          rw [hwk] at h1
          simpa using h1.symm
      · rw [List.getElem?_set_ne (Ne.symm hk)]
    have ih := z_set_mem is wv (ws.set i w) (by rw [← h2]; exact List.map_congr_left (fun j _ => hkey j))
    refine ⟨fun k => by rw [show z_set ws (i :: is) (w :: wv) = z_set (ws.set i w) is wv from rfl, ih.1 k, hkey k], fun k q hq => ?_⟩
    rcases ih.2 k q hq with h | ⟨h, hn⟩
    · exact Or.inl (List.mem_cons_of_mem _ h)
    · by_cases hk : k = i
      · subst hk
        have hl : k < ws.length := by
          have := (List.getElem?_eq_some_iff.mp h).1
          rwa [List.length_set] at this
        rw [List.getElem?_set_self hl] at h
        cases h
        exact Or.inl List.mem_cons_self
      · rw [List.getElem?_set_ne (Ne.symm hk)] at h
        exact Or.inr ⟨h, fun hm => (List.mem_cons.mp hm).elim hk hn⟩
theorem z_set_P {wv : va_W} {is : List Nat} {H H1 : Heap} (hP : va_P D vwCl ws H) (hD : va_D G ws) (hW : is.map (fun i => (ws[i]?).map Prod.fst) = wv.map (fun w => some w.1)) (hF : ∀ q, q < H.size → q ∉ wv.map Prod.fst → H1[q]? = H[q]?) (hPw : va_P D vwCl wv H1) : va_P D vwCl (z_set ws is wv) H1 := by
  intro k q hk
  rcases (z_set_mem is wv ws hW).2 k q hk with h | ⟨h, hn⟩
  · obtain ⟨j, hj⟩ := List.mem_iff_getElem?.mp h
    exact hPw j q hj
  · refine (hP k q h).kept (hF q.1 (hP k q h).lt (fun hm => ?_))
    obtain ⟨w, hw, e⟩ := List.mem_map.mp hm
    obtain ⟨j, hj⟩ := List.mem_iff_getElem?.mp hw
    have h1 : (is.map (fun i => (ws[i]?).map Prod.fst))[j]? = some (some w.1) := by rw [hW, List.getElem?_map, hj]; rfl
    rw [List.getElem?_map] at h1
    cases hi : is[j]? with
    | none => rw [hi] at h1; cases h1
    | some i =>
      rw [hi] at h1
      have h2 : (ws[i]?).map Prod.fst = some w.1 := Option.some.inj h1
      cases hwi : ws[i]? with
      | none => rw [hwi] at h2; cases h2
      | some e' =>
        rw [hwi] at h2
        have h3 : e'.1 = w.1 := Option.some.inj h2
        have := hD.1 k i q e' h hwi (by rw [h3, e])
        subst this
        exact hn (List.mem_of_getElem? hi)
theorem z_set_D {wv : va_W} {is : List Nat} (hD : va_D G ws) (hW : is.map (fun i => (ws[i]?).map Prod.fst) = wv.map (fun w => some w.1)) : va_D G (z_set ws is wv) := by
  have hm := (z_set_mem is wv ws hW).1
  have ex : ∀ (i : Nat) (q : Nat × va_E), (z_set ws is wv)[i]? = some q → ∃ q', ws[i]? = some q' ∧ q'.1 = q.1 := by
    intro i q h
    have h1 := hm i
    rw [h] at h1
    cases hw : ws[i]? with
    | none => rw [hw] at h1; cases h1
    | some e => rw [hw] at h1; exact ⟨e, rfl, (Option.some.inj h1).symm⟩
  refine ⟨fun i j a b ha hb hab => ?_, fun k q hk => ?_⟩
  · obtain ⟨a', h1, h2⟩ := ex i a ha
    obtain ⟨b', h3, h4⟩ := ex j b hb
    exact hD.1 i j a' b' h1 h3 (by rw [h2, h4, hab])
  · obtain ⟨q', h1, h2⟩ := ex k q hk
    rw [← h2]
    exact hD.2 k q' h1
/-! contracts: what a method answers, and which cells hold what behind it; nothing else is written -/
def z_A (ch : List Nat) (sz : Nat) : Nat → Prop := fun q => q ∈ ch ∨ sz ≤ q
def z_fr (ch : List Nat) (st t : State) : Prop := st.heap.size ≤ t.heap.size ∧ ∀ q : Nat, q < st.heap.size → q ∉ ch → t.heap[q]? = st.heap[q]?
def z_pre (l : Launch) (G : Nat → Prop) (D : va_G) (tys : List (ClassId × FieldType)) (av : List Value) (wp : va_W) (sz : Nat) (a : Array Value) (U : State) : Prop := U.heap.size = sz ∧ a = av.toArray ∧ va_P D vwCl wp U.heap ∧ z_E l G D tys U ∧ va_D G wp
def z_Q (D : va_G) (v : Option Value) (wv : va_W) (_ : Array Value) (st : State) (o : Outcome) (t : State) : Prop := o = .returned v ∧ va_P D vwCl wv t.heap ∧ z_fr (wv.map Prod.fst) st t
def z_X (D : va_G) (ex : String → Prop) (wx : va_W) (E : String) (st t : State) : Prop := ex E ∧ va_P D vwCl wx t.heap ∧ z_fr (wx.map Prod.fst) st t
/-- a method that returns: from the cells wp, with v; the cells wv behind it -/
def z_M (l : Launch) (y : MethodName) (wy : List Cond) (rm : Room) (G : Nat → Prop) (D : va_G) (tys : List (ClassId × FieldType)) (av : List Value) (wp : va_W) (v : Option Value) (wv : va_W) (mc ms : Nat) : Prop :=
  ∀ sz : Nat, Met l y wy rm (z_pre l G D tys av wp sz) (z_Q D v wv) mc ms (z_A (wv.map Prod.fst) sz)
/-- a method that returns (then ok holds) or throws an exception of a class of ex (then the cells wx hold) -/
def z_MX (l : Launch) (y : MethodName) (wy : List Cond) (rm : Room) (G : Nat → Prop) (D : va_G) (tys : List (ClassId × FieldType)) (av : List Value) (wp : va_W) (ok : Prop) (v : Option Value) (wv : va_W) (ex : String → Prop) (wx : va_W) (mc ms : Nat) : Prop :=
  ∀ sz : Nat, vx_Met l y wy rm (z_pre l G D tys av wp sz) (fun a st o t => ok ∧ z_Q D v wv a st o t) (z_X D ex wx) mc ms (z_A (wv.map Prod.fst) sz)
theorem z_blind {av : List Value} {wp : va_W} {sz : Nat} : FrameBlind (z_pre l G D tys av wp sz) := fun _ _ g mk q => ⟨q.1, q.2.1, q.2.2.1, q.2.2.2.1.calling g mk _, q.2.2.2.2⟩
theorem z_preP {av : List Value} {wp : va_W} {H : Heap} {locs : List Loc} (hE : z_E l G D tys s) (hAG : ∀ q, A q → G q) (hP : va_P D vwCl ws H) (hD : va_D G ws) (hS : va_S A s.heap H locs) (is : List Nat) (hn : va_nd is = true) (hC : is.map (fun i => ws[i]?) = wp.map some) (U : State) (hU : U.heap = H) (hW : s.WarmedH U.vm) : z_pre l G D tys av wp H.size av.toArray U := by
  refine ⟨by rw [hU], rfl, ?_, hE.step hW (by rw [hU]; exact hS.1) (fun q h1 h2 => by rw [hU]; exact hS.2.1 q h1 (fun h => h2 (hAG q h))), hD.sub is hn hC⟩
  rw [hU]
  refine hP.sub is ?_
  have : is.filterMap (fun i => ws[i]?) = (is.map (fun i => ws[i]?)).filterMap id := by rw [List.filterMap_map]; rfl
  rw [this, hC, List.filterMap_map]; exact List.filterMap_some
/-- behind a call -/
theorem z_after {wv : va_W} {isW : List Nat} {H : Heap} {locs L : List Loc} {st₀ t T' : State} (hP : va_P D vwCl ws H) (hD : va_D G ws) (hS : va_S A s.heap H locs) (hW : isW.map (fun i => (ws[i]?).map Prod.fst) = wv.map (fun w => some w.1)) (hA : ∀ q ∈ wv.map Prod.fst, A q) (hAn : ∀ q : Nat, s.heap.size ≤ q → A q)
    (h0 : st₀.heap = H) (e1 : T'.heap = t.heap) (hPv : va_P D vwCl wv t.heap) (hF : z_fr (wv.map Prod.fst) st₀ t) (hL : ∀ q ∈ L, z_A (wv.map Prod.fst) H.size q.base) : va_P D vwCl (z_set ws isW wv) T'.heap ∧ va_D G (z_set ws isW wv) ∧ va_S A s.heap T'.heap (locs ++ L) := by
  obtain ⟨f1, f2⟩ := hF
  rw [h0] at f1 f2
  refine ⟨z_set_P hP hD hW (fun q h1 h2 => by rw [e1]; exact f2 q h1 h2) (by rw [e1]; exact hPv), z_set_D hD hW, ?_, ?_, ?_⟩
  · rw [e1]; exact Nat.le_trans hS.1 f1
  · intro q h1 h2
    rw [e1, f2 q (Nat.lt_of_lt_of_le h1 hS.1) (fun h => h2 (hA q h))]
    exact hS.2.1 q h1 h2
  · intro q hq
    rcases List.mem_append.mp hq with h | h
    · exact hS.2.2 q h
    · rcases hL q h with h | h
      · exact hA _ h
      · exact hAn _ (Nat.le_trans hS.1 h)
theorem z_call {v : Option Value} {wv ws' : va_W} {mc ms : Nat} {rest st' : List Value} {a : Array Value} (K : z_K p l s m args meth c G A D tys cc nL ret Ts own)
    (hr : ∀ (H : Heap) (locs : List Loc) (ls : Array Slot), va_P D vwCl ws H → va_D G ws → va_S A s.heap H locs → lv_has ls nL lv → va_Run p l e R s m args below meth c H locs cells slots mc ms (F0 m pc ls st) rest (z_Q D v wv a) (z_A (wv.map Prod.fst) H.size))
    (isW : List Nat) (hW : isW.map (fun i => (ws[i]?).map Prod.fst) = wv.map (fun w => some w.1)) (hA : ∀ q ∈ wv.map Prod.fst, A q) (hws : z_set ws isW wv = ws') (hst : v.toList ++ rest = st')
    (kk : Z p l e R s m args below meth c D nL G A Q ws' lv (cells + mc) (slots + ms) (pc + 3) st') : Z p l e R s m args below meth c D nL G A Q ws lv cells slots pc st := by
  intro H locs ls hP hD hS hl T hT X
  obtain ⟨v', st₀, t, T', L, h0, X', hL, e1, e2, ⟨hv, hPv, hF⟩, go⟩ := hr H locs ls hP hD hS hl T hT X
  cases hv
  obtain ⟨g1, g2, g3⟩ := z_after hP hD hS hW hA K.2.2.2.2.2.2.2.2.2.2 h0 e1 hPv hF hL
  rw [hws] at g1 g2
  subst hst
  obtain ⟨t2, a1, b1⟩ := kk T'.heap (locs ++ L) ls g1 g2 g3 hl T' rfl X'
  exact ⟨t2, go t2 a1, b1⟩
theorem z_callX {v : Option Value} {ok : Prop} {ex : String → Prop} {wv wx ws' : va_W} {mc ms : Nat} {rest st' : List Value} {a : Array Value} (K : z_K p l s m args meth c G A D tys cc nL ret Ts own)
    (hr : ∀ (H : Heap) (locs : List Loc) (ls : Array Slot), va_P D vwCl ws H → va_D G ws → va_S A s.heap H locs → lv_has ls nL lv → vx_Run p l e R s m args below meth c H locs cells slots mc ms (F0 m pc ls st) rest (fun st o t => ok ∧ z_Q D v wv a st o t) (z_X D ex wx) (z_A (wv.map Prod.fst) H.size))
    (isW : List Nat) (hW : isW.map (fun i => (ws[i]?).map Prod.fst) = wv.map (fun w => some w.1)) (hA : ∀ q ∈ wv.map Prod.fst, A q) (hws : z_set ws isW wv = ws') (hst : v.toList ++ rest = st')
    (hwx : wx.map Prod.fst = wv.map Prod.fst) (hwx2 : isW.map (fun i => ws[i]?) = wx.map some) (hwx3 : z_set ws isW wx = ws)
    (kx : ∀ E : String, ex E → ZX p l e R s m args below meth c D nL G A Q ws lv (cells + mc) (slots + ms) pc E)
    (kk : ok → Z p l e R s m args below meth c D nL G A Q ws' lv (cells + mc) (slots + ms) (pc + 3) st') : Z p l e R s m args below meth c D nL G A Q ws lv cells slots pc st := by
  intro H locs ls hP hD hS hl T hT X
  rcases hr H locs ls hP hD hS hl T hT X with ⟨v', st₀, t, T', L, h0, X', hL, e1, e2, ⟨hok, hv, hPv, hF⟩, go⟩ | ⟨q, st₀, t, T', L, E, ce, h0, X', hL, e1, e2, ⟨hex, hPv, hF⟩, hce, hcv, hcl, go⟩
  · cases hv
    obtain ⟨g1, g2, g3⟩ := z_after hP hD hS hW hA K.2.2.2.2.2.2.2.2.2.2 h0 e1 hPv hF hL
    rw [hws] at g1 g2
    subst hst
    obtain ⟨t2, a1, b1⟩ := kk hok T'.heap (locs ++ L) ls g1 g2 g3 hl T' rfl X'
    exact ⟨t2, go t2 a1, b1⟩
  · have hW2 : isW.map (fun i => (ws[i]?).map Prod.fst) = wx.map (fun w => some w.1) := by
      have := congrArg (List.map (Option.map Prod.fst)) hwx2
      rw [List.map_map, List.map_map] at this
      exact this
    obtain ⟨g1, g2, g3⟩ := z_after hP hD hS hW2 (by rw [hwx]; exact hA) K.2.2.2.2.2.2.2.2.2.2 h0 e1 hPv hF (by rw [hwx]; exact hL)
    rw [hwx3] at g1 g2
    obtain ⟨t2, a1, b1⟩ := kx E hex T'.heap (locs ++ L) ls rest q ce g1 g2 g3 hl (by rw [e1]; exact hce) hcv hcl T' rfl X'
    exact ⟨t2, go.trans a1, b1⟩
theorem z_inA {ch : List Nat} {sz : Nat} {wv : va_W} (is : List Nat) (h : is.map (fun i => ch[i]?) = wv.map (fun w => some w.1)) : ∀ q ∈ wv.map Prod.fst, z_A ch sz q := by
  intro q hq
  obtain ⟨w, hw, e⟩ := List.mem_map.mp hq
  obtain ⟨j, hj⟩ := List.mem_iff_getElem?.mp hw
  have h1 : (is.map (fun i => ch[i]?))[j]? = some (some w.1) := by rw [h, List.getElem?_map, hj]; rfl
  rw [List.getElem?_map] at h1
  cases hi : is[j]? with
  | none => rw [hi] at h1; cases h1
  | some i =>
    rw [hi] at h1
    rw [← e]
    exact Or.inl (List.mem_of_getElem? (Option.some.inj h1))
/-- the calls by their kinds -/
theorem z_callV {y : MethodName} {wy wy' : List Cond} {rm : Room} {b : Nat} {As : List Value} {wp wv ws' : va_W} {v : Option Value} {mc ms index maxL : Nat} {by' : ByteArray} {ry : Option FieldType} {C : String} {rest st' : List Value} {fs : List Value} {T : u_T} {N : Nat}
    (K : z_K p l s m args meth c G A D tys cc nL ret Ts own) (hM : z_M l y wy rm G D tys (.ref b :: As) wp v wv mc ms) (hG : GoodIn Ts (wsV own index C y wy)) (hw : wy = Cond.code y by' maxL ry :: wy') (n ci : Nat)
    (hd : y.cls = C ∧ y.cls ≠ "java/lang/invoke/MethodHandle" ∧ y.cls ≠ "java/lang/invoke/VarHandle" ∧ (parseMethodDescriptor y.desc).map (fun d => d.parameters.length) = some n) (hc : vwCl[ci]? = some (C, T, N)) (hdg : decode cc pc = .ok (.invokevirtual index, 3))
    (is : List Nat) (q0 : Nat) (isW isA : List Nat) {ch : List Nat} {sz : Nat} (hAA : A = z_A ch sz) (hrc : rm.cells = mc) (hrs : rm.slots = ms) (hR : rm.frames + 1 ≤ R.frames ∧ 8 + (maxL + 11) + rm.locals ≤ R.locals) (hf : cells + mc ≤ R.cells ∧ slots + ms ≤ R.slots)
    (hn : va_nd is = true) (hC : is.map (fun i => ws[i]?) = wp.map some) (he : ws[q0]? = some (b, .inr (ci, fs))) (hlen : As.length = n) (hstk : st = As.reverse ++ .ref b :: rest) (hcat : (rest.map fun v => v.category).sum ≤ 8)
    (hW : isW.map (fun i => (ws[i]?).map Prod.fst) = wv.map (fun w => some w.1)) (hA : isA.map (fun i => ch[i]?) = wv.map (fun w => some w.1)) (hws : z_set ws isW wv = ws') (hst : v.toList ++ rest = st')
    (kk : Z p l e R s m args below meth c D nL G A Q ws' lv (cells + mc) (slots + ms) (pc + 3) st') : Z p l e R s m args below meth c D nL G A Q ws lv cells slots pc st :=
  z_call K (fun H locs ls hP hD hS hl => va_runV ⟨K.1, K.2.1, K.2.2.1, K.2.2.2.1, K.2.2.2.2.1⟩ (hM H.size) (cwV n K.2.2.2.2.1 hG hw hrc hrs hd hR) ⟨z_blind, va_recv K.2.2.2.2.2.1 hP hc he, fun U hU hW => z_preP K.2.2.2.2.2.2.2.2.1 K.2.2.2.2.2.2.2.2.2.1 hP hD hS is hn hC U hU hW⟩ rfl hlen hl.1 hstk (lv_room hcat) hdg hf) isW hW (by rw [hAA]; exact z_inA isA hA) hws hst kk
theorem z_callS {y : MethodName} {wy wy' : List Cond} {rm : Room} {As : List Value} {wp wv ws' : va_W} {v : Option Value} {mc ms index maxL : Nat} {by' : ByteArray} {ry : Option FieldType} {rest st' : List Value}
    (K : z_K p l s m args meth c G A D tys cc nL ret Ts own) (hM : z_M l y wy rm G D tys As wp v wv mc ms) (hG : GoodIn Ts (va_wsS own index y wy)) (hw : wy = Cond.code y by' maxL ry :: wy') (n : Nat)
    (hd : y.cls ≠ "java/lang/invoke/MethodHandle" ∧ y.cls ≠ "java/lang/invoke/VarHandle" ∧ (parseMethodDescriptor y.desc).map (fun d => d.parameters.length) = some n) (hdg : decode cc pc = .ok (.invokestatic index, 3))
    (is : List Nat) (isW isA : List Nat) {ch : List Nat} {sz : Nat} (hAA : A = z_A ch sz) (hrc : rm.cells = mc) (hrs : rm.slots = ms) (hR : rm.frames + 1 ≤ R.frames ∧ 8 + (maxL + 11) + rm.locals ≤ R.locals) (hf : cells + mc ≤ R.cells ∧ slots + ms ≤ R.slots)
    (hn : va_nd is = true) (hC : is.map (fun i => ws[i]?) = wp.map some) (hlen : As.length = n) (hstk : st = As.reverse ++ rest) (hcat : (rest.map fun v => v.category).sum ≤ 8)
    (hW : isW.map (fun i => (ws[i]?).map Prod.fst) = wv.map (fun w => some w.1)) (hA : isA.map (fun i => ch[i]?) = wv.map (fun w => some w.1)) (hws : z_set ws isW wv = ws') (hst : v.toList ++ rest = st')
    (kk : Z p l e R s m args below meth c D nL G A Q ws' lv (cells + mc) (slots + ms) (pc + 3) st') : Z p l e R s m args below meth c D nL G A Q ws lv cells slots pc st :=
  z_call K (fun H locs ls hP hD hS hl => va_runS ⟨K.1, K.2.1, K.2.2.1, K.2.2.2.1, K.2.2.2.2.1⟩ (hM H.size) (va_cwS n K.2.2.2.2.1 hG hw hrc hrs hd hR) ⟨z_blind, fun U hU hW => z_preP K.2.2.2.2.2.2.2.2.1 K.2.2.2.2.2.2.2.2.2.1 hP hD hS is hn hC U hU hW⟩ rfl hlen hl.1 hstk (lv_room hcat) hdg hf) isW hW (by rw [hAA]; exact z_inA isA hA) hws hst kk
/-- a private function of the host, without cells: nothing is written -/
theorem z_callSN {y : MethodName} {wy wy' : List Cond} {rm : Room} {As : List Value} {v : Option Value} {index maxL : Nat} {by' : ByteArray} {ry : Option FieldType} {rest st' : List Value} {host : String}
    (K : z_K p l s m args meth c G A D tys cc nL ret Ts own) (hM : z_M l y wy rm G D tys As [] v [] 0 0) (hG : GoodIn Ts wy) (hw : wy = Cond.code y by' maxL ry :: wy') (n : Nat) (hnest : (own, index, y, host) ∈ z_nests) (hini : Cond.initialized y.cls ∈ Ts) (hsta : Cond.static y ∈ Ts)
    (hd : y.cls ≠ "java/lang/invoke/MethodHandle" ∧ y.cls ≠ "java/lang/invoke/VarHandle" ∧ (parseMethodDescriptor y.desc).map (fun d => d.parameters.length) = some n) (hdg : decode cc pc = .ok (.invokestatic index, 3))
    (hrc : rm.cells = 0) (hrs : rm.slots = 0) (hR : rm.frames + 1 ≤ R.frames ∧ 8 + (maxL + 11) + rm.locals ≤ R.locals) (hf : cells ≤ R.cells ∧ slots ≤ R.slots)
    (hlen : As.length = n) (hstk : st = As.reverse ++ rest) (hcat : (rest.map fun v => v.category).sum ≤ 8) (hst : v.toList ++ rest = st')
    (kk : Z p l e R s m args below meth c D nL G A Q ws lv cells slots (pc + 3) st') : Z p l e R s m args below meth c D nL G A Q ws lv cells slots pc st :=
  z_call (ws' := ws) K (fun H locs ls hP hD hS hl => va_runSN ⟨K.1, K.2.1, K.2.2.1, K.2.2.2.1, K.2.2.2.2.1⟩ (hM H.size) ⟨va_cnB n K.2.2.2.2.1 hG hw hrc hrs (K.2.2.2.2.2.2.2.2.1.2.2.2.1 _ hnest) (K.2.2.2.2.1 _ hini) hd hR, K.2.2.2.2.1 _ hsta, trivial⟩ ⟨z_blind, fun U hU hW => z_preP K.2.2.2.2.2.2.2.2.1 K.2.2.2.2.2.2.2.2.2.1 hP hD hS [] rfl rfl U hU hW⟩ rfl hlen hl.1 hstk (lv_room hcat) hdg hf) [] rfl (fun _ h => nomatch h) rfl hst kk
theorem z_callVX {y : MethodName} {wy wy' : List Cond} {rm : Room} {b : Nat} {As : List Value} {wp wv wx ws' : va_W} {ok : Prop} {ex : String → Prop} {v : Option Value} {mc ms index maxL : Nat} {by' : ByteArray} {ry : Option FieldType} {C : String} {rest st' : List Value} {fs : List Value} {T : u_T} {N : Nat}
    (K : z_K p l s m args meth c G A D tys cc nL ret Ts own) (hM : z_MX l y wy rm G D tys (.ref b :: As) wp ok v wv ex wx mc ms) (hG : GoodIn Ts (wsV own index C y wy)) (hw : wy = Cond.code y by' maxL ry :: wy') (n ci : Nat)
    (hd : y.cls = C ∧ y.cls ≠ "java/lang/invoke/MethodHandle" ∧ y.cls ≠ "java/lang/invoke/VarHandle" ∧ (parseMethodDescriptor y.desc).map (fun d => d.parameters.length) = some n) (hc : vwCl[ci]? = some (C, T, N)) (hdg : decode cc pc = .ok (.invokevirtual index, 3))
    (is : List Nat) (q0 : Nat) (isW isA : List Nat) {ch : List Nat} {sz : Nat} (hAA : A = z_A ch sz) (hrc : rm.cells = mc) (hrs : rm.slots = ms) (hR : rm.frames + 1 ≤ R.frames ∧ 8 + (maxL + 11) + rm.locals ≤ R.locals) (hf : cells + mc ≤ R.cells ∧ slots + ms ≤ R.slots)
    (hn : va_nd is = true) (hC : is.map (fun i => ws[i]?) = wp.map some) (he : ws[q0]? = some (b, .inr (ci, fs))) (hlen : As.length = n) (hstk : st = As.reverse ++ .ref b :: rest) (hcat : (rest.map fun v => v.category).sum ≤ 8)
    (hW : isW.map (fun i => (ws[i]?).map Prod.fst) = wv.map (fun w => some w.1)) (hA : isA.map (fun i => ch[i]?) = wv.map (fun w => some w.1)) (hws : z_set ws isW wv = ws') (hst : v.toList ++ rest = st')
    (hwx : wx.map Prod.fst = wv.map Prod.fst) (hwx2 : isW.map (fun i => ws[i]?) = wx.map some) (hwx3 : z_set ws isW wx = ws)
    (kx : ∀ E : String, ex E → ZX p l e R s m args below meth c D nL G A Q ws lv (cells + mc) (slots + ms) pc E)
    (kk : ok → Z p l e R s m args below meth c D nL G A Q ws' lv (cells + mc) (slots + ms) (pc + 3) st') : Z p l e R s m args below meth c D nL G A Q ws lv cells slots pc st :=
  z_callX K (fun H locs ls hP hD hS hl => vx_runV ⟨K.1, K.2.1, K.2.2.1, K.2.2.2.1, K.2.2.2.2.1⟩ (hM H.size) (cwV n K.2.2.2.2.1 hG hw hrc hrs hd hR) ⟨z_blind, va_recv K.2.2.2.2.2.1 hP hc he, fun U hU hW => z_preP K.2.2.2.2.2.2.2.2.1 K.2.2.2.2.2.2.2.2.2.1 hP hD hS is hn hC U hU hW⟩ rfl hlen hl.1 hstk (lv_room hcat) hdg hf) isW hW (by rw [hAA]; exact z_inA isA hA) hws hst hwx hwx2 hwx3 kx kk
theorem z_callSX {y : MethodName} {wy wy' : List Cond} {rm : Room} {As : List Value} {wp wv wx ws' : va_W} {ok : Prop} {ex : String → Prop} {v : Option Value} {mc ms index maxL : Nat} {by' : ByteArray} {ry : Option FieldType} {rest st' : List Value}
    (K : z_K p l s m args meth c G A D tys cc nL ret Ts own) (hM : z_MX l y wy rm G D tys As wp ok v wv ex wx mc ms) (hG : GoodIn Ts (va_wsS own index y wy)) (hw : wy = Cond.code y by' maxL ry :: wy') (n : Nat)
    (hd : y.cls ≠ "java/lang/invoke/MethodHandle" ∧ y.cls ≠ "java/lang/invoke/VarHandle" ∧ (parseMethodDescriptor y.desc).map (fun d => d.parameters.length) = some n) (hdg : decode cc pc = .ok (.invokestatic index, 3))
    (is : List Nat) (isW isA : List Nat) {ch : List Nat} {sz : Nat} (hAA : A = z_A ch sz) (hrc : rm.cells = mc) (hrs : rm.slots = ms) (hR : rm.frames + 1 ≤ R.frames ∧ 8 + (maxL + 11) + rm.locals ≤ R.locals) (hf : cells + mc ≤ R.cells ∧ slots + ms ≤ R.slots)
    (hn : va_nd is = true) (hC : is.map (fun i => ws[i]?) = wp.map some) (hlen : As.length = n) (hstk : st = As.reverse ++ rest) (hcat : (rest.map fun v => v.category).sum ≤ 8)
    (hW : isW.map (fun i => (ws[i]?).map Prod.fst) = wv.map (fun w => some w.1)) (hA : isA.map (fun i => ch[i]?) = wv.map (fun w => some w.1)) (hws : z_set ws isW wv = ws') (hst : v.toList ++ rest = st')
    (hwx : wx.map Prod.fst = wv.map Prod.fst) (hwx2 : isW.map (fun i => ws[i]?) = wx.map some) (hwx3 : z_set ws isW wx = ws)
    (kx : ∀ E : String, ex E → ZX p l e R s m args below meth c D nL G A Q ws lv (cells + mc) (slots + ms) pc E)
    (kk : ok → Z p l e R s m args below meth c D nL G A Q ws' lv (cells + mc) (slots + ms) (pc + 3) st') : Z p l e R s m args below meth c D nL G A Q ws lv cells slots pc st :=
  z_callX K (fun H locs ls hP hD hS hl => vx_runS ⟨K.1, K.2.1, K.2.2.1, K.2.2.2.1, K.2.2.2.2.1⟩ (hM H.size) (va_cwS n K.2.2.2.2.1 hG hw hrc hrs hd hR) ⟨z_blind, fun U hU hW => z_preP K.2.2.2.2.2.2.2.2.1 K.2.2.2.2.2.2.2.2.2.1 hP hD hS is hn hC U hU hW⟩ rfl hlen hl.1 hstk (lv_room hcat) hdg hf) isW hW (by rw [hAA]; exact z_inA isA hA) hws hst hwx hwx2 hwx3 kx kk

end ZLIB
end
section
section ZENDS
variable {p : Program} {l : Launch} {e : Env} {R : Room} {s : State} {m : MethodId} {args : Array Value} {below : List Frame} {meth : Method} {c : Code} {D : va_G} {nL : Nat} {G A : Nat → Prop} {Q : State → Prop} {ws : va_W} {lv : List (Nat × Value)} {cells slots pc : Nat} {st : List Value} {cc : ByteArray} {ret : Option FieldType} {Ts : List Cond} {own : String} {tys : List (ClassId × FieldType)}
/-! a method from its entry to its ends -/
theorem z_AG {wp wv : va_W} {U : State} (hE : z_E l G D tys U) (hD : va_D G wp) (isG : List Nat) (hG : isG.map (fun i => (wp[i]?).map Prod.fst) = wv.map (fun w => some w.1)) : ∀ q, z_A (wv.map Prod.fst) U.heap.size q → G q := by
  intro q hq
  rcases hq with h | h
  · obtain ⟨w, hw, e⟩ := List.mem_map.mp h
    obtain ⟨j, hj⟩ := List.mem_iff_getElem?.mp hw
    have h1 : (isG.map (fun i => (wp[i]?).map Prod.fst))[j]? = some (some w.1) := by rw [hG, List.getElem?_map, hj]; rfl
    rw [List.getElem?_map] at h1
    cases hi : isG[j]? with
    | none => rw [hi] at h1; cases h1
    | some i =>
      rw [hi] at h1
      have h2 : (wp[i]?).map Prod.fst = some w.1 := Option.some.inj h1
      cases hwi : wp[i]? with
      | none => rw [hwi] at h2; cases h2
      | some e' =>
        rw [hwi] at h2
        have h3 : e'.1 = w.1 := Option.some.inj h2
        rw [← e, ← h3]
        exact hD.2 i e' hwi
  · exact hE.2.2.1 q h
theorem z_ofW {y : MethodName} {wy wy' : List Cond} {rm : Room} {av : List Value} {wp wv : va_W} {v : Option Value} {mc ms : Nat} (hy : plainName y.cls = true) (hw : wy = Cond.code y cc nL ret :: wy') (hav : (lg_sl av).length ≤ nL) (isG : List Nat) (hG : isG.map (fun i => (wp[i]?).map Prod.fst) = wv.map (fun w => some w.1)) {lv0 : List (Nat × Value)} (hlv : lv_args 0 av = lv0)
    (body : ∀ (p : Program) (e : Env) (s : State) (m : MethodId) (args : Array Value) (below : List Frame) (meth : Method) (c : Code), z_K p l s m args meth c G (z_A (wv.map Prod.fst) s.heap.size) D tys cc nL ret wy y.cls → Z p l e rm s m args below meth c D nL G (z_A (wv.map Prod.fst) s.heap.size) (MQ below (z_Q D v wv) args s mc ms (z_A (wv.map Prod.fst) s.heap.size)) wp lv0 0 0 0 []) : z_M l y wy rm G D tys av wp v wv mc ms := by
  intro sz
  refine Met.ofW (cc := cc) (maxL := nL) (ret := ret) hy hw ?_
  intro p e s m args below meth c s₁ B hml hv
  obtain ⟨hsz, rfl, hP, hE, hD⟩ := hv
  subst hsz
  have K : z_K p l s m av.toArray meth c G (z_A (wv.map Prod.fst) s.heap.size) D tys cc nL ret wy y.cls := ⟨B.exec, B.bytes, hml, findClass_of_methodNamed B.named, atoms_spec (ws := wy) B.pre, hE.1, B.returns, B.notSynchronized, hE, z_AG hE hD isG hG, fun q h => Or.inr h⟩
  rw [lg_entry_eq]
  exact body p e s m _ below meth c K s.heap [] _ hP hD va_S.rf (hlv ▸ lv_entry av hav)
theorem z_ofWX {y : MethodName} {wy wy' : List Cond} {rm : Room} {av : List Value} {wp wv wx : va_W} {v : Option Value} {ok : Prop} {ex : String → Prop} {mc ms : Nat} (hy : plainName y.cls = true) (hw : wy = Cond.code y cc nL ret :: wy') (hav : (lg_sl av).length ≤ nL) (isG : List Nat) (hG : isG.map (fun i => (wp[i]?).map Prod.fst) = wv.map (fun w => some w.1)) {lv0 : List (Nat × Value)} (hlv : lv_args 0 av = lv0)
    (body : ∀ (p : Program) (e : Env) (s : State) (m : MethodId) (args : Array Value) (below : List Frame) (meth : Method) (c : Code), z_K p l s m args meth c G (z_A (wv.map Prod.fst) s.heap.size) D tys cc nL ret wy y.cls → (∀ x ∈ c.exceptionTable.toList, False) → Z p l e rm s m args below meth c D nL G (z_A (wv.map Prod.fst) s.heap.size) (vx_MQ below (fun a st o t => ok ∧ z_Q D v wv a st o t) (z_X D ex wx) args s mc ms (z_A (wv.map Prod.fst) s.heap.size)) wp lv0 0 0 0 []) : z_MX l y wy rm G D tys av wp ok v wv ex wx mc ms := by
  intro sz
  refine vx_ofW (cc := cc) (maxL := nL) (ret := ret) hy hw ?_
  intro p e s m args below meth c s₁ B hml htab hv
  obtain ⟨hsz, rfl, hP, hE, hD⟩ := hv
  subst hsz
  have K : z_K p l s m av.toArray meth c G (z_A (wv.map Prod.fst) s.heap.size) D tys cc nL ret wy y.cls := ⟨B.exec, B.bytes, hml, findClass_of_methodNamed B.named, atoms_spec (ws := wy) B.pre, hE.1, B.returns, B.notSynchronized, hE, z_AG hE hD isG hG, fun q h => Or.inr h⟩
  rw [lg_entry_eq]
  exact body p e s m _ below meth c K htab s.heap [] _ hP hD va_S.rf (hlv ▸ lv_entry av hav)
theorem z_frOf {wv : va_W} {H : Heap} {locs : List Loc} {t : State} (hS : va_S (z_A (wv.map Prod.fst) s.heap.size) s.heap H locs) (ht : t.heap = H) : z_fr (wv.map Prod.fst) s t := ⟨by rw [ht]; exact hS.1, fun q h1 h2 => by rw [ht]; exact hS.2.1 q h1 (fun h => h.elim h2 (fun h => absurd h (Nat.not_le.mpr h1)))⟩
theorem z_subP {wv : va_W} {H : Heap} (hP : va_P D vwCl ws H) (isW : List Nat) (hW : isW.map (fun i => ws[i]?) = wv.map some) : va_P D vwCl wv H := by
  refine hP.sub isW ?_
  have : isW.filterMap (fun i => ws[i]?) = (isW.map (fun i => ws[i]?)).filterMap id := by rw [List.filterMap_map]; rfl
  rw [this, hW, List.filterMap_map]; exact List.filterMap_some
theorem z_Qof {wv : va_W} {v : Option Value} {H : Heap} {locs : List Loc} {t : State} (hP : va_P D vwCl ws H) (hS : va_S (z_A (wv.map Prod.fst) s.heap.size) s.heap H locs) (isW : List Nat) (hW : isW.map (fun i => ws[i]?) = wv.map some) (ht : t.heap = H) : z_Q D v wv args s (.returned v) t := ⟨rfl, by rw [ht]; exact z_subP hP isW hW, z_frOf hS ht⟩
theorem z_iret {wv : va_W} {mc ms : Nat} (K : z_K p l s m args meth c G (z_A (wv.map Prod.fst) s.heap.size) D tys cc nL (some .int) Ts own) {x y : Int32} (hdg : decode cc pc = .ok (.ireturn, 1)) (hx : x = y) (isW : List Nat) (hW : isW.map (fun i => ws[i]?) = wv.map some) (hc : cells ≤ mc) (hs : slots ≤ ms) : Z p l e R s m args below meth c D nL G (z_A (wv.map Prod.fst) s.heap.size) (MQ below (z_Q D (some (.int y)) wv) args s mc ms (z_A (wv.map Prod.fst) s.heap.size)) ws lv cells slots pc [.int x] := by
  subst hx
  exact fun H locs ls hP hD hS hl => W.widen hc hs (W.iret K.1 K.2.1 K.2.2.2.2.2.2.1 (fun t ht _ => z_Qof hP hS isW hW ht) hS.2.2 hdg K.2.2.2.2.2.2.2.1)
theorem z_iretX {wv : va_W} {mc ms : Nat} (K : z_K p l s m args meth c G (z_A (wv.map Prod.fst) s.heap.size) D tys cc nL (some .int) Ts own) {x y : Int32} {ok : Prop} {XC : String → State → State → Prop} (hok : ok) (hdg : decode cc pc = .ok (.ireturn, 1)) (hx : x = y) (isW : List Nat) (hW : isW.map (fun i => ws[i]?) = wv.map some) (hc : cells ≤ mc) (hs : slots ≤ ms) : Z p l e R s m args below meth c D nL G (z_A (wv.map Prod.fst) s.heap.size) (vx_MQ below (fun a st o t => ok ∧ z_Q D (some (.int y)) wv a st o t) XC args s mc ms (z_A (wv.map Prod.fst) s.heap.size)) ws lv cells slots pc [.int x] := by
  subst hx
  exact fun H locs ls hP hD hS hl => W.widen hc hs (vx_ret (W.iret K.1 K.2.1 K.2.2.2.2.2.2.1 (fun t ht _ => ⟨hok, z_Qof hP hS isW hW ht⟩) hS.2.2 hdg K.2.2.2.2.2.2.2.1))
theorem z_lret {wv : va_W} {mc ms : Nat} (K : z_K p l s m args meth c G (z_A (wv.map Prod.fst) s.heap.size) D tys cc nL (some .long) Ts own) {x y : Int64} (hdg : decode cc pc = .ok (.lreturn, 1)) (hx : x = y) (isW : List Nat) (hW : isW.map (fun i => ws[i]?) = wv.map some) (hc : cells ≤ mc) (hs : slots ≤ ms) : Z p l e R s m args below meth c D nL G (z_A (wv.map Prod.fst) s.heap.size) (MQ below (z_Q D (some (.long y)) wv) args s mc ms (z_A (wv.map Prod.fst) s.heap.size)) ws lv cells slots pc [.long x] := by
  subst hx
  exact fun H locs ls hP hD hS hl => W.widen hc hs (W.lret K.1 K.2.1 K.2.2.2.2.2.2.1 (fun t ht _ => z_Qof hP hS isW hW ht) hS.2.2 hdg K.2.2.2.2.2.2.2.1)
theorem z_lretX {wv : va_W} {mc ms : Nat} (K : z_K p l s m args meth c G (z_A (wv.map Prod.fst) s.heap.size) D tys cc nL (some .long) Ts own) {x y : Int64} {ok : Prop} {XC : String → State → State → Prop} (hok : ok) (hdg : decode cc pc = .ok (.lreturn, 1)) (hx : x = y) (isW : List Nat) (hW : isW.map (fun i => ws[i]?) = wv.map some) (hc : cells ≤ mc) (hs : slots ≤ ms) : Z p l e R s m args below meth c D nL G (z_A (wv.map Prod.fst) s.heap.size) (vx_MQ below (fun a st o t => ok ∧ z_Q D (some (.long y)) wv a st o t) XC args s mc ms (z_A (wv.map Prod.fst) s.heap.size)) ws lv cells slots pc [.long x] := by
  subst hx
  exact fun H locs ls hP hD hS hl => W.widen hc hs (vx_ret (W.lret K.1 K.2.1 K.2.2.2.2.2.2.1 (fun t ht _ => ⟨hok, z_Qof hP hS isW hW ht⟩) hS.2.2 hdg K.2.2.2.2.2.2.2.1))
theorem z_dret {wv : va_W} {mc ms : Nat} (K : z_K p l s m args meth c G (z_A (wv.map Prod.fst) s.heap.size) D tys cc nL (some .double) Ts own) {x y : UInt64} (hdg : decode cc pc = .ok (.dreturn, 1)) (hx : x = y) (isW : List Nat) (hW : isW.map (fun i => ws[i]?) = wv.map some) (hc : cells ≤ mc) (hs : slots ≤ ms) : Z p l e R s m args below meth c D nL G (z_A (wv.map Prod.fst) s.heap.size) (MQ below (z_Q D (some (.double y)) wv) args s mc ms (z_A (wv.map Prod.fst) s.heap.size)) ws lv cells slots pc [.double x] := by
  subst hx
  exact fun H locs ls hP hD hS hl => W.widen hc hs (W.dret K.1 K.2.1 K.2.2.2.2.2.2.1 (fun t ht _ => z_Qof hP hS isW hW ht) hS.2.2 hdg K.2.2.2.2.2.2.2.1)
theorem z_dretX {wv : va_W} {mc ms : Nat} (K : z_K p l s m args meth c G (z_A (wv.map Prod.fst) s.heap.size) D tys cc nL (some .double) Ts own) {x y : UInt64} {ok : Prop} {XC : String → State → State → Prop} (hok : ok) (hdg : decode cc pc = .ok (.dreturn, 1)) (hx : x = y) (isW : List Nat) (hW : isW.map (fun i => ws[i]?) = wv.map some) (hc : cells ≤ mc) (hs : slots ≤ ms) : Z p l e R s m args below meth c D nL G (z_A (wv.map Prod.fst) s.heap.size) (vx_MQ below (fun a st o t => ok ∧ z_Q D (some (.double y)) wv a st o t) XC args s mc ms (z_A (wv.map Prod.fst) s.heap.size)) ws lv cells slots pc [.double x] := by
  subst hx
  exact fun H locs ls hP hD hS hl => W.widen hc hs (vx_ret (W.dret K.1 K.2.1 K.2.2.2.2.2.2.1 (fun t ht _ => ⟨hok, z_Qof hP hS isW hW ht⟩) hS.2.2 hdg K.2.2.2.2.2.2.2.1))
theorem z_zret {wv : va_W} {mc ms : Nat} (K : z_K p l s m args meth c G (z_A (wv.map Prod.fst) s.heap.size) D tys cc nL (some .boolean) Ts own) {x : Int32} {y : Bool} (hdg : decode cc pc = .ok (.ireturn, 1)) (hx : x = z_b y) (isW : List Nat) (hW : isW.map (fun i => ws[i]?) = wv.map some) (hc : cells ≤ mc) (hs : slots ≤ ms) : Z p l e R s m args below meth c D nL G (z_A (wv.map Prod.fst) s.heap.size) (MQ below (z_Q D (some (.int (z_b y))) wv) args s mc ms (z_A (wv.map Prod.fst) s.heap.size)) ws lv cells slots pc [.int x] := by
  subst hx
  exact fun H locs ls hP hD hS hl => W.widen hc hs (W.zret K.1 K.2.1 K.2.2.2.2.2.2.1 (by cases y <;> rfl) (fun t ht _ => z_Qof hP hS isW hW ht) hS.2.2 hdg K.2.2.2.2.2.2.2.1)
theorem z_vret {wv : va_W} {mc ms : Nat} (K : z_K p l s m args meth c G (z_A (wv.map Prod.fst) s.heap.size) D tys cc nL (none) Ts own) (hdg : decode cc pc = .ok (.return_, 1)) (isW : List Nat) (hW : isW.map (fun i => ws[i]?) = wv.map some) (hc : cells ≤ mc) (hs : slots ≤ ms) : Z p l e R s m args below meth c D nL G (z_A (wv.map Prod.fst) s.heap.size) (MQ below (z_Q D none wv) args s mc ms (z_A (wv.map Prod.fst) s.heap.size)) ws lv cells slots pc [] :=
  fun H locs ls hP hD hS hl => W.widen hc hs (W.vret K.1 K.2.1 K.2.2.2.2.2.2.1 (fun t ht _ => z_Qof hP hS isW hW ht) hS.2.2 hdg K.2.2.2.2.2.2.2.1)
theorem z_zretX {wv : va_W} {mc ms : Nat} (K : z_K p l s m args meth c G (z_A (wv.map Prod.fst) s.heap.size) D tys cc nL (some .boolean) Ts own) {x : Int32} {y : Bool} {ok : Prop} {XC : String → State → State → Prop} (hok : ok) (hdg : decode cc pc = .ok (.ireturn, 1)) (hx : x = z_b y) (isW : List Nat) (hW : isW.map (fun i => ws[i]?) = wv.map some) (hc : cells ≤ mc) (hs : slots ≤ ms) : Z p l e R s m args below meth c D nL G (z_A (wv.map Prod.fst) s.heap.size) (vx_MQ below (fun a st o t => ok ∧ z_Q D (some (.int (z_b y))) wv a st o t) XC args s mc ms (z_A (wv.map Prod.fst) s.heap.size)) ws lv cells slots pc [.int x] := by
  subst hx
  exact fun H locs ls hP hD hS hl => W.widen hc hs (vx_ret (W.zret K.1 K.2.1 K.2.2.2.2.2.2.1 (by cases y <;> rfl) (fun t ht _ => ⟨hok, z_Qof hP hS isW hW ht⟩) hS.2.2 hdg K.2.2.2.2.2.2.2.1))
theorem z_vretX {wv : va_W} {mc ms : Nat} (K : z_K p l s m args meth c G (z_A (wv.map Prod.fst) s.heap.size) D tys cc nL (none) Ts own) {ok : Prop} {XC : String → State → State → Prop} (hok : ok) (hdg : decode cc pc = .ok (.return_, 1)) (isW : List Nat) (hW : isW.map (fun i => ws[i]?) = wv.map some) (hc : cells ≤ mc) (hs : slots ≤ ms) : Z p l e R s m args below meth c D nL G (z_A (wv.map Prod.fst) s.heap.size) (vx_MQ below (fun a st o t => ok ∧ z_Q D none wv a st o t) XC args s mc ms (z_A (wv.map Prod.fst) s.heap.size)) ws lv cells slots pc [] :=
  fun H locs ls hP hD hS hl => W.widen hc hs (vx_ret (W.vret K.1 K.2.1 K.2.2.2.2.2.2.1 (fun t ht _ => ⟨hok, z_Qof hP hS isW hW ht⟩) hS.2.2 hdg K.2.2.2.2.2.2.2.1))
theorem zx_out {Qc : Array Value → State → Outcome → State → Prop} {ex : String → Prop} {wx : va_W} {E : String} {mc ms : Nat} (K : z_K p l s m args meth c G (z_A (wx.map Prod.fst) s.heap.size) D tys cc nL ret Ts own) (htab : ∀ x ∈ c.exceptionTable.toList, False) (hex : ex E) (isW : List Nat) (hW : isW.map (fun i => ws[i]?) = wx.map some) (hc : cells ≤ mc) (hs : slots ≤ ms) : ZX p l e R s m args below meth c D nL G (z_A (wx.map Prod.fst) s.heap.size) (vx_MQ below Qc (z_X D ex wx) args s mc ms (z_A (wx.map Prod.fst) s.heap.size)) ws lv cells slots pc E := fun H locs ls rest q ce hP hD hS hl hce hcv hcl =>
  vx_out (fun x hx => (htab x hx).elim) K.2.2.2.2.2.2.2.1 hce hcv hcl (fun t ht _ => ⟨hex, by rw [ht]; exact z_subP hP isW hW, z_frOf hS ht⟩) hS.2.2 hc hs
theorem z_throw {Qc : Array Value → State → Outcome → State → Prop} {ex : String → Prop} {wx : va_W} {mc ms ik is ic : Nat} {cls text : String} (K : z_K p l s m args meth c G (z_A (wx.map Prod.fst) s.heap.size) D tys cc nL ret Ts "FableIndex") (htab : ∀ x ∈ c.exceptionTable.toList, False) (hcls : Bundle.fit cls = true) (hk : Cond.classLink "FableIndex" ik cls ∈ Ts) (hini : Cond.initialized cls ∈ Ts) (hstr : (is, text) ∈ z_strs) (hcast : (cls, cls) ∈ z_casts)
    (hng : ∀ w ∈ (vx_atS "FableIndex" ic cls ["java/lang/RuntimeException", "java/lang/Exception"]).filter (fun w => !goodWord w), w ∈ (Cond.castable cls cls :: z_decls.map Cond.declares)) (hgw : (Cond.classLink "FableIndex" ik cls :: Cond.initialized cls :: vx_atS "FableIndex" ic cls ["java/lang/RuntimeException", "java/lang/Exception"]).all vx_ot = true) (hat : ∀ w ∈ (vx_atS "FableIndex" ic cls ["java/lang/RuntimeException", "java/lang/Exception"]).filter goodWord, w ∈ Ts)
    (d0 : decode cc pc = .ok (.new ik, 3)) (d3 : decode cc (pc + 3) = .ok (.dup, 1)) (d4 : decode cc (pc + 4) = .ok (.ldc is, 2)) (d6 : decode cc (pc + 6) = .ok (.invokespecial ic, 3)) (d9 : decode cc (pc + 9) = .ok (.athrow, 1))
    (hex : ex cls) (isW : List Nat) (hW : isW.map (fun i => ws[i]?) = wx.map some) (hcat : (st.map fun v => v.category).sum + 82 ≤ R.locals) (hRf : 5 < R.frames) (hRc : cells + 1 ≤ R.cells) (hRs : slots + 6 ≤ R.slots) (hc : cells + 1 ≤ mc) (hs : slots + 6 ≤ ms) : Z p l e R s m args below meth c D nL G (z_A (wx.map Prod.fst) s.heap.size) (vx_MQ below Qc (z_X D ex wx) args s mc ms (z_A (wx.map Prod.fst) s.heap.size)) ws lv cells slots pc st := by
  intro H locs ls hP hD hS hl
  have hE := K.2.2.2.2.2.2.2.2.1
  obtain ⟨sa, hsa⟩ := hE.2.2.2.2.2.2.1 _ hstr
  have hts := K.2.2.2.2.1
  refine vx_throwS (A := z_A (wx.map Prod.fst) s.heap.size) (names := ["java/lang/RuntimeException", "java/lang/Exception"]) (sa := sa) K.1 K.2.1 hE.2.1 K.2.2.2.1 hcls (by decide +kernel) (hts _ hk) (hts _ hini) hsa (vx_hat (B := (Cond.castable cls cls :: z_decls.map Cond.declares)) (fun w hw => hts w (hat w hw)) hng (vx_c (va_Nw.use rfl (hE.2.2.2.2.1.1 _ hcast)) (fun w hw => by obtain ⟨q, hq, e⟩ := List.mem_map.mp hw; rw [← e]; exact va_Nw.use rfl (hE.2.2.2.2.1.2 q hq)))) (fun w hw => List.all_eq_true.mp hgw w hw)
    (hE.2.2.2.2.2.2.2.1.narrow K.2.2.2.2.2.2.2.2.2.1) (hE.2.2.2.2.2.2.2.2.narrow K.2.2.2.2.2.2.2.2.2.1) hS (by rw [K.2.2.1]; exact hl.1) d0 d3 d4 d6 d9 (fun x hx => (htab x hx).elim) (by simpa using hRf) (by simpa using hcat) hRc hRs K.2.2.2.2.2.2.2.1 ?_ hS.2.2 hc hs
  intro t hvm h1 h2
  refine ⟨hex, ?_, ?_⟩
  · intro k q hk
    have hq := z_subP hP isW hW k q hk
    exact hq.kept (h2 _ hq.lt)
  · exact ⟨Nat.le_trans hS.1 h1, fun q g1 g2 => by rw [h2 q (Nat.lt_of_lt_of_le g1 hS.1)]; exact hS.2.1 q g1 (fun h => h.elim g2 (fun h => absurd h (Nat.not_le.mpr g1)))⟩
theorem z_ng1 : ∀ w ∈ (vx_atS "FableIndex" 242 z_IOB ["java/lang/RuntimeException", "java/lang/Exception"]).filter (fun w => !goodWord w), w ∈ (Cond.castable z_IOB z_IOB :: z_decls.map Cond.declares) := by decide +kernel
theorem z_gw1 : (Cond.classLink "FableIndex" 238 z_IOB :: Cond.initialized z_IOB :: vx_atS "FableIndex" 242 z_IOB ["java/lang/RuntimeException", "java/lang/Exception"]).all vx_ot = true := by decide +kernel
theorem z_ng2 : ∀ w ∈ (vx_atS "FableIndex" 62 z_ISE ["java/lang/RuntimeException", "java/lang/Exception"]).filter (fun w => !goodWord w), w ∈ (Cond.castable z_ISE z_ISE :: z_decls.map Cond.declares) := by decide +kernel
theorem z_gw2 : (Cond.classLink "FableIndex" 58 z_ISE :: Cond.initialized z_ISE :: vx_atS "FableIndex" 62 z_ISE ["java/lang/RuntimeException", "java/lang/Exception"]).all vx_ot = true := by decide +kernel
theorem z_ng3 : ∀ w ∈ (vx_atS "FableIndex" 89 z_IAE ["java/lang/RuntimeException", "java/lang/Exception"]).filter (fun w => !goodWord w), w ∈ (Cond.castable z_IAE z_IAE :: z_decls.map Cond.declares) := by decide +kernel
theorem z_gw3 : (Cond.classLink "FableIndex" 85 z_IAE :: Cond.initialized z_IAE :: vx_atS "FableIndex" 89 z_IAE ["java/lang/RuntimeException", "java/lang/Exception"]).all vx_ot = true := by decide +kernel

theorem z_inc1 (k : Nat) : nI k + Int32.ofInt 1 = nI (k + 1) := nI_1 k
theorem z_memA {ch : List Nat} {sz a : Nat} (i : Nat) (h : ch[i]? = some a) : z_A ch sz a := Or.inl (List.mem_of_getElem? h)
theorem z_ialdN (K : z_K p l s m args meth c G A D tys cc nL ret Ts own) (q0 t0 k : Nat) {a : Nat} {cA : ClassId} {n : Nat} {f : Nat → Int32} (hk : k < n) (hn : n < 2 ^ 31) (ha : ws[q0]? = some (a, .inl (cA, n, .inl f))) (ht : tys[t0]? = some (cA, .int)) (hdg : decode cc pc = .ok (.iaload, 1)) (kk : Z p l e R s m args below meth c D nL G A Q ws lv cells slots (pc + 1) (.int (f k) :: st)) : Z p l e R s m args below meth c D nL G A Q ws lv cells slots pc (.int (nI k) :: .ref a :: st) :=
  z_iald K q0 t0 ha ht (vp_in_nI hk hn) hdg (by rw [nI_clamp (Nat.lt_trans hk hn)]) kk
theorem z_iastN (K : z_K p l s m args meth c G A D tys cc nL ret Ts own) (q0 t0 k : Nat) {a : Nat} {cA : ClassId} {n : Nat} {f : Nat → Int32} {x : Int32} (hk : k < n) (hn : n < 2 ^ 31) (ha : ws[q0]? = some (a, .inl (cA, n, .inl f))) (ht : tys[t0]? = some (cA, .int)) (hdg : decode cc pc = .ok (.iastore, 1)) (hA : A a) {ws' : va_W} (hws : ws.set q0 (a, .inl (cA, n, .inl (upd f k x))) = ws') (kk : Z p l e R s m args below meth c D nL G A Q ws' lv cells slots (pc + 1) st) : Z p l e R s m args below meth c D nL G A Q ws lv cells slots pc (.int x :: .int (nI k) :: .ref a :: st) :=
  z_iast K q0 t0 ha ht (vp_in_nI hk hn) hdg hA (nI_clamp (Nat.lt_trans hk hn)) hws kk
theorem z_laldN (K : z_K p l s m args meth c G A D tys cc nL ret Ts own) (q0 t0 k : Nat) {a : Nat} {cA : ClassId} {n : Nat} {f : Nat → Int64} (hk : k < n) (hn : n < 2 ^ 31) (ha : ws[q0]? = some (a, .inl (cA, n, .inr (.inl f)))) (ht : tys[t0]? = some (cA, .long)) (hdg : decode cc pc = .ok (.laload, 1)) (kk : Z p l e R s m args below meth c D nL G A Q ws lv cells slots (pc + 1) (.long (f k) :: st)) : Z p l e R s m args below meth c D nL G A Q ws lv cells slots pc (.int (nI k) :: .ref a :: st) :=
  z_lald K q0 t0 ha ht (vp_in_nI hk hn) hdg (by rw [nI_clamp (Nat.lt_trans hk hn)]) kk
theorem z_lastN (K : z_K p l s m args meth c G A D tys cc nL ret Ts own) (q0 t0 k : Nat) {a : Nat} {cA : ClassId} {n : Nat} {f : Nat → Int64} {x : Int64} (hk : k < n) (hn : n < 2 ^ 31) (ha : ws[q0]? = some (a, .inl (cA, n, .inr (.inl f)))) (ht : tys[t0]? = some (cA, .long)) (hdg : decode cc pc = .ok (.lastore, 1)) (hA : A a) {ws' : va_W} (hws : ws.set q0 (a, .inl (cA, n, .inr (.inl (vp_updL f k x)))) = ws') (kk : Z p l e R s m args below meth c D nL G A Q ws' lv cells slots (pc + 1) st) : Z p l e R s m args below meth c D nL G A Q ws lv cells slots pc (.long x :: .int (nI k) :: .ref a :: st) :=
  z_last K q0 t0 ha ht (vp_in_nI hk hn) hdg hA (nI_clamp (Nat.lt_trans hk hn)) hws kk
theorem z_ws {ws' : va_W} (h : ws = ws') (kk : Z p l e R s m args below meth c D nL G A Q ws' lv cells slots pc st) : Z p l e R s m args below meth c D nL G A Q ws lv cells slots pc st := by rw [h]; exact kk
theorem z_st {st' : List Value} (h : st = st') (kk : Z p l e R s m args below meth c D nL G A Q ws lv cells slots pc st') : Z p l e R s m args below meth c D nL G A Q ws lv cells slots pc st := by rw [h]; exact kk
theorem z_loop {wsf : Nat → va_W} {lvf : Nat → List (Nat × Value)} (n : Nat) (hw : wsf 0 = ws) (hl : lvf 0 = lv) (h0 : Z p l e R s m args below meth c D nL G A Q (wsf n) (lvf n) cells slots pc st) (hs : ∀ k, k < n → Z p l e R s m args below meth c D nL G A Q (wsf (k + 1)) (lvf (k + 1)) cells slots pc st → Z p l e R s m args below meth c D nL G A Q (wsf k) (lvf k) cells slots pc st) : Z p l e R s m args below meth c D nL G A Q ws lv cells slots pc st := by
  subst hw hl
  exact z_down (P := fun k => Z p l e R s m args below meth c D nL G A Q (wsf k) (lvf k) cells slots pc st) n h0 hs 0 (Nat.zero_le _)

end ZENDS
end
section
theorem dX0_init_0 : decode cX0_init 0 = .ok (.aload_n 0, 1) := by decide +kernel
theorem dX0_init_1 : decode cX0_init 1 = .ok (.invokespecial 3, 3) := by decide +kernel
theorem dX0_init_4 : decode cX0_init 4 = .ok (.aload_n 0, 1) := by decide +kernel
theorem dX0_init_5 : decode cX0_init 5 = .ok (.iconst 0, 1) := by decide +kernel
theorem dX0_init_6 : decode cX0_init 6 = .ok (.putfield 9, 3) := by decide +kernel
theorem dX0_init_9 : decode cX0_init 9 = .ok (.aload_n 0, 1) := by decide +kernel
theorem dX0_init_10 : decode cX0_init 10 = .ok (.bipush 20, 2) := by decide +kernel
theorem dX0_init_12 : decode cX0_init 12 = .ok (.newarray .int, 2) := by decide +kernel
theorem dX0_init_14 : decode cX0_init 14 = .ok (.putfield 15, 3) := by decide +kernel
theorem dX0_init_17 : decode cX0_init 17 = .ok (.aload_n 0, 1) := by decide +kernel
theorem dX0_init_18 : decode cX0_init 18 = .ok (.bipush 20, 2) := by decide +kernel
theorem dX0_init_20 : decode cX0_init 20 = .ok (.newarray .int, 2) := by decide +kernel
theorem dX0_init_22 : decode cX0_init 22 = .ok (.putfield 19, 3) := by decide +kernel
theorem dX0_init_25 : decode cX0_init 25 = .ok (.aload_n 0, 1) := by decide +kernel
theorem dX0_init_26 : decode cX0_init 26 = .ok (.bipush 20, 2) := by decide +kernel
theorem dX0_init_28 : decode cX0_init 28 = .ok (.newarray .int, 2) := by decide +kernel
theorem dX0_init_30 : decode cX0_init 30 = .ok (.putfield 22, 3) := by decide +kernel
theorem dX0_init_33 : decode cX0_init 33 = .ok (.aload_n 0, 1) := by decide +kernel
theorem dX0_init_34 : decode cX0_init 34 = .ok (.bipush 20, 2) := by decide +kernel
theorem dX0_init_36 : decode cX0_init 36 = .ok (.newarray .int, 2) := by decide +kernel
theorem dX0_init_38 : decode cX0_init 38 = .ok (.putfield 25, 3) := by decide +kernel
theorem dX0_init_41 : decode cX0_init 41 = .ok (.aload_n 0, 1) := by decide +kernel
theorem dX0_init_42 : decode cX0_init 42 = .ok (.bipush 20, 2) := by decide +kernel
theorem dX0_init_44 : decode cX0_init 44 = .ok (.newarray .int, 2) := by decide +kernel
theorem dX0_init_46 : decode cX0_init 46 = .ok (.putfield 28, 3) := by decide +kernel
theorem dX0_init_49 : decode cX0_init 49 = .ok (.aload_n 0, 1) := by decide +kernel
theorem dX0_init_50 : decode cX0_init 50 = .ok (.bipush 20, 2) := by decide +kernel
theorem dX0_init_52 : decode cX0_init 52 = .ok (.newarray .int, 2) := by decide +kernel
theorem dX0_init_54 : decode cX0_init 54 = .ok (.putfield 31, 3) := by decide +kernel
theorem dX0_init_57 : decode cX0_init 57 = .ok (.return_, 1) := by decide +kernel
theorem dX0_write_0 : decode cX0_write 0 = .ok (.aload_n 0, 1) := by decide +kernel
theorem dX0_write_1 : decode cX0_write 1 = .ok (.getfield 9, 3) := by decide +kernel
theorem dX0_write_4 : decode cX0_write 4 = .ok (.istore 5, 2) := by decide +kernel
theorem dX0_write_6 : decode cX0_write 6 = .ok (.aload_n 0, 1) := by decide +kernel
theorem dX0_write_7 : decode cX0_write 7 = .ok (.getfield 15, 3) := by decide +kernel
theorem dX0_write_10 : decode cX0_write 10 = .ok (.iload 5, 2) := by decide +kernel
theorem dX0_write_12 : decode cX0_write 12 = .ok (.iload_n 1, 1) := by decide +kernel
theorem dX0_write_13 : decode cX0_write 13 = .ok (.iastore, 1) := by decide +kernel
theorem dX0_write_14 : decode cX0_write 14 = .ok (.aload_n 0, 1) := by decide +kernel
theorem dX0_write_15 : decode cX0_write 15 = .ok (.getfield 19, 3) := by decide +kernel
theorem dX0_write_18 : decode cX0_write 18 = .ok (.iload 5, 2) := by decide +kernel
theorem dX0_write_20 : decode cX0_write 20 = .ok (.iload_n 2, 1) := by decide +kernel
theorem dX0_write_21 : decode cX0_write 21 = .ok (.iastore, 1) := by decide +kernel
theorem dX0_write_22 : decode cX0_write 22 = .ok (.aload_n 0, 1) := by decide +kernel
theorem dX0_write_23 : decode cX0_write 23 = .ok (.getfield 22, 3) := by decide +kernel
theorem dX0_write_26 : decode cX0_write 26 = .ok (.iload 5, 2) := by decide +kernel
theorem dX0_write_28 : decode cX0_write 28 = .ok (.iload_n 3, 1) := by decide +kernel
theorem dX0_write_29 : decode cX0_write 29 = .ok (.iastore, 1) := by decide +kernel
theorem dX0_write_30 : decode cX0_write 30 = .ok (.aload_n 0, 1) := by decide +kernel
theorem dX0_write_31 : decode cX0_write 31 = .ok (.getfield 25, 3) := by decide +kernel
theorem dX0_write_34 : decode cX0_write 34 = .ok (.iload 5, 2) := by decide +kernel
theorem dX0_write_36 : decode cX0_write 36 = .ok (.iload 4, 2) := by decide +kernel
theorem dX0_write_38 : decode cX0_write 38 = .ok (.iastore, 1) := by decide +kernel
theorem dX0_write_39 : decode cX0_write 39 = .ok (.aload_n 0, 1) := by decide +kernel
theorem dX0_write_40 : decode cX0_write 40 = .ok (.getfield 28, 3) := by decide +kernel
theorem dX0_write_43 : decode cX0_write 43 = .ok (.iload 5, 2) := by decide +kernel
theorem dX0_write_45 : decode cX0_write 45 = .ok (.iconst 0, 1) := by decide +kernel
theorem dX0_write_46 : decode cX0_write 46 = .ok (.iastore, 1) := by decide +kernel
theorem dX0_write_47 : decode cX0_write 47 = .ok (.aload_n 0, 1) := by decide +kernel
theorem dX0_write_48 : decode cX0_write 48 = .ok (.getfield 31, 3) := by decide +kernel
theorem dX0_write_51 : decode cX0_write 51 = .ok (.iload 5, 2) := by decide +kernel
theorem dX0_write_53 : decode cX0_write 53 = .ok (.iconst 1, 1) := by decide +kernel
theorem dX0_write_54 : decode cX0_write 54 = .ok (.iload 5, 2) := by decide +kernel
theorem dX0_write_56 : decode cX0_write 56 = .ok (.ishl, 1) := by decide +kernel
theorem dX0_write_57 : decode cX0_write 57 = .ok (.iastore, 1) := by decide +kernel
theorem dX0_write_58 : decode cX0_write 58 = .ok (.iload 4, 2) := by decide +kernel
theorem dX0_write_60 : decode cX0_write 60 = .ok (.ifCond .lt 34, 3) := by decide +kernel
theorem dX0_write_63 : decode cX0_write 63 = .ok (.aload_n 0, 1) := by decide +kernel
theorem dX0_write_64 : decode cX0_write 64 = .ok (.getfield 28, 3) := by decide +kernel
theorem dX0_write_67 : decode cX0_write 67 = .ok (.iload 4, 2) := by decide +kernel
theorem dX0_write_69 : decode cX0_write 69 = .ok (.dup2, 1) := by decide +kernel
theorem dX0_write_70 : decode cX0_write 70 = .ok (.iaload, 1) := by decide +kernel
theorem dX0_write_71 : decode cX0_write 71 = .ok (.iconst 1, 1) := by decide +kernel
theorem dX0_write_72 : decode cX0_write 72 = .ok (.iload 5, 2) := by decide +kernel
theorem dX0_write_74 : decode cX0_write 74 = .ok (.ishl, 1) := by decide +kernel
theorem dX0_write_75 : decode cX0_write 75 = .ok (.ior, 1) := by decide +kernel
theorem dX0_write_76 : decode cX0_write 76 = .ok (.iastore, 1) := by decide +kernel
theorem dX0_write_77 : decode cX0_write 77 = .ok (.aload_n 0, 1) := by decide +kernel
theorem dX0_write_78 : decode cX0_write 78 = .ok (.getfield 31, 3) := by decide +kernel
theorem dX0_write_81 : decode cX0_write 81 = .ok (.iload 5, 2) := by decide +kernel
theorem dX0_write_83 : decode cX0_write 83 = .ok (.dup2, 1) := by decide +kernel
theorem dX0_write_84 : decode cX0_write 84 = .ok (.iaload, 1) := by decide +kernel
theorem dX0_write_85 : decode cX0_write 85 = .ok (.aload_n 0, 1) := by decide +kernel
theorem dX0_write_86 : decode cX0_write 86 = .ok (.getfield 31, 3) := by decide +kernel
theorem dX0_write_89 : decode cX0_write 89 = .ok (.iload 4, 2) := by decide +kernel
theorem dX0_write_91 : decode cX0_write 91 = .ok (.iaload, 1) := by decide +kernel
theorem dX0_write_92 : decode cX0_write 92 = .ok (.ior, 1) := by decide +kernel
theorem dX0_write_93 : decode cX0_write 93 = .ok (.iastore, 1) := by decide +kernel
theorem dX0_write_94 : decode cX0_write 94 = .ok (.aload_n 0, 1) := by decide +kernel
theorem dX0_write_95 : decode cX0_write 95 = .ok (.dup, 1) := by decide +kernel
theorem dX0_write_96 : decode cX0_write 96 = .ok (.getfield 9, 3) := by decide +kernel
theorem dX0_write_99 : decode cX0_write 99 = .ok (.iconst 1, 1) := by decide +kernel
theorem dX0_write_100 : decode cX0_write 100 = .ok (.iadd, 1) := by decide +kernel
theorem dX0_write_101 : decode cX0_write 101 = .ok (.putfield 9, 3) := by decide +kernel
theorem dX0_write_104 : decode cX0_write 104 = .ok (.iload 5, 2) := by decide +kernel
theorem dX0_write_106 : decode cX0_write 106 = .ok (.ireturn, 1) := by decide +kernel
theorem dX0_all_0 : decode cX0_all 0 = .ok (.iconst 1, 1) := by decide +kernel
theorem dX0_all_1 : decode cX0_all 1 = .ok (.aload_n 0, 1) := by decide +kernel
theorem dX0_all_2 : decode cX0_all 2 = .ok (.getfield 9, 3) := by decide +kernel
theorem dX0_all_5 : decode cX0_all 5 = .ok (.ishl, 1) := by decide +kernel
theorem dX0_all_6 : decode cX0_all 6 = .ok (.iconst 1, 1) := by decide +kernel
theorem dX0_all_7 : decode cX0_all 7 = .ok (.isub, 1) := by decide +kernel
theorem dX0_all_8 : decode cX0_all 8 = .ok (.ireturn, 1) := by decide +kernel
theorem dX0_withMoral_0 : decode cX0_withMoral 0 = .ok (.iconst 0, 1) := by decide +kernel
theorem dX0_withMoral_1 : decode cX0_withMoral 1 = .ok (.istore_n 2, 1) := by decide +kernel
theorem dX0_withMoral_2 : decode cX0_withMoral 2 = .ok (.iconst 0, 1) := by decide +kernel
theorem dX0_withMoral_3 : decode cX0_withMoral 3 = .ok (.istore_n 3, 1) := by decide +kernel
theorem dX0_withMoral_4 : decode cX0_withMoral 4 = .ok (.iload_n 3, 1) := by decide +kernel
theorem dX0_withMoral_5 : decode cX0_withMoral 5 = .ok (.aload_n 0, 1) := by decide +kernel
theorem dX0_withMoral_6 : decode cX0_withMoral 6 = .ok (.getfield 9, 3) := by decide +kernel
theorem dX0_withMoral_9 : decode cX0_withMoral 9 = .ok (.if_icmp .ge 25, 3) := by decide +kernel
theorem dX0_withMoral_12 : decode cX0_withMoral 12 = .ok (.aload_n 0, 1) := by decide +kernel
theorem dX0_withMoral_13 : decode cX0_withMoral 13 = .ok (.getfield 15, 3) := by decide +kernel
theorem dX0_withMoral_16 : decode cX0_withMoral 16 = .ok (.iload_n 3, 1) := by decide +kernel
theorem dX0_withMoral_17 : decode cX0_withMoral 17 = .ok (.iaload, 1) := by decide +kernel
theorem dX0_withMoral_18 : decode cX0_withMoral 18 = .ok (.iload_n 1, 1) := by decide +kernel
theorem dX0_withMoral_19 : decode cX0_withMoral 19 = .ok (.if_icmp .ne 9, 3) := by decide +kernel
theorem dX0_withMoral_22 : decode cX0_withMoral 22 = .ok (.iload_n 2, 1) := by decide +kernel
theorem dX0_withMoral_23 : decode cX0_withMoral 23 = .ok (.iconst 1, 1) := by decide +kernel
theorem dX0_withMoral_24 : decode cX0_withMoral 24 = .ok (.iload_n 3, 1) := by decide +kernel
theorem dX0_withMoral_25 : decode cX0_withMoral 25 = .ok (.ishl, 1) := by decide +kernel
theorem dX0_withMoral_26 : decode cX0_withMoral 26 = .ok (.ior, 1) := by decide +kernel
theorem dX0_withMoral_27 : decode cX0_withMoral 27 = .ok (.istore_n 2, 1) := by decide +kernel
theorem dX0_withMoral_28 : decode cX0_withMoral 28 = .ok (.iinc 3 1, 3) := by decide +kernel
theorem dX0_withMoral_31 : decode cX0_withMoral 31 = .ok (.goto (-27), 3) := by decide +kernel
theorem dX0_withMoral_34 : decode cX0_withMoral 34 = .ok (.iload_n 2, 1) := by decide +kernel
theorem dX0_withMoral_35 : decode cX0_withMoral 35 = .ok (.ireturn, 1) := by decide +kernel
set_option maxRecDepth 20000 in
theorem ggX0_withBeast_X2_has : GoodIn wsX0_withBeast wsX2_has := goodIn_r _ [5] (by decide +kernel) (by decide +kernel)
set_option maxRecDepth 20000 in
theorem gX0_withBeast_X2_has_n34 : GoodIn wsX0_withBeast (wsX2_has) := ggX0_withBeast_X2_has
theorem dX0_withBeast_0 : decode cX0_withBeast 0 = .ok (.iconst 0, 1) := by decide +kernel
theorem dX0_withBeast_1 : decode cX0_withBeast 1 = .ok (.istore_n 2, 1) := by decide +kernel
theorem dX0_withBeast_2 : decode cX0_withBeast 2 = .ok (.iconst 0, 1) := by decide +kernel
theorem dX0_withBeast_3 : decode cX0_withBeast 3 = .ok (.istore_n 3, 1) := by decide +kernel
theorem dX0_withBeast_4 : decode cX0_withBeast 4 = .ok (.iload_n 3, 1) := by decide +kernel
theorem dX0_withBeast_5 : decode cX0_withBeast 5 = .ok (.aload_n 0, 1) := by decide +kernel
theorem dX0_withBeast_6 : decode cX0_withBeast 6 = .ok (.getfield 9, 3) := by decide +kernel
theorem dX0_withBeast_9 : decode cX0_withBeast 9 = .ok (.if_icmp .ge 28, 3) := by decide +kernel
theorem dX0_withBeast_12 : decode cX0_withBeast 12 = .ok (.aload_n 0, 1) := by decide +kernel
theorem dX0_withBeast_13 : decode cX0_withBeast 13 = .ok (.getfield 19, 3) := by decide +kernel
theorem dX0_withBeast_16 : decode cX0_withBeast 16 = .ok (.iload_n 3, 1) := by decide +kernel
theorem dX0_withBeast_17 : decode cX0_withBeast 17 = .ok (.iaload, 1) := by decide +kernel
theorem dX0_withBeast_18 : decode cX0_withBeast 18 = .ok (.iload_n 1, 1) := by decide +kernel
theorem dX0_withBeast_19 : decode cX0_withBeast 19 = .ok (.invokestatic 34, 3) := by decide +kernel
theorem dX0_withBeast_22 : decode cX0_withBeast 22 = .ok (.ifCond .eq 9, 3) := by decide +kernel
theorem dX0_withBeast_25 : decode cX0_withBeast 25 = .ok (.iload_n 2, 1) := by decide +kernel
theorem dX0_withBeast_26 : decode cX0_withBeast 26 = .ok (.iconst 1, 1) := by decide +kernel
theorem dX0_withBeast_27 : decode cX0_withBeast 27 = .ok (.iload_n 3, 1) := by decide +kernel
theorem dX0_withBeast_28 : decode cX0_withBeast 28 = .ok (.ishl, 1) := by decide +kernel
theorem dX0_withBeast_29 : decode cX0_withBeast 29 = .ok (.ior, 1) := by decide +kernel
theorem dX0_withBeast_30 : decode cX0_withBeast 30 = .ok (.istore_n 2, 1) := by decide +kernel
theorem dX0_withBeast_31 : decode cX0_withBeast 31 = .ok (.iinc 3 1, 3) := by decide +kernel
theorem dX0_withBeast_34 : decode cX0_withBeast 34 = .ok (.goto (-30), 3) := by decide +kernel
theorem dX0_withBeast_37 : decode cX0_withBeast 37 = .ok (.iload_n 2, 1) := by decide +kernel
theorem dX0_withBeast_38 : decode cX0_withBeast 38 = .ok (.ireturn, 1) := by decide +kernel
theorem dX1_init_0 : decode cX1_init 0 = .ok (.aload_n 0, 1) := by decide +kernel
theorem dX1_init_1 : decode cX1_init 1 = .ok (.invokespecial 3, 3) := by decide +kernel
theorem dX1_init_4 : decode cX1_init 4 = .ok (.aload_n 0, 1) := by decide +kernel
theorem dX1_init_5 : decode cX1_init 5 = .ok (.bipush 6, 2) := by decide +kernel
theorem dX1_init_7 : decode cX1_init 7 = .ok (.newarray .int, 2) := by decide +kernel
theorem dX1_init_9 : decode cX1_init 9 = .ok (.putfield 9, 3) := by decide +kernel
theorem dX1_init_12 : decode cX1_init 12 = .ok (.aload_n 0, 1) := by decide +kernel
theorem dX1_init_13 : decode cX1_init 13 = .ok (.bipush 6, 2) := by decide +kernel
theorem dX1_init_15 : decode cX1_init 15 = .ok (.newarray .int, 2) := by decide +kernel
theorem dX1_init_17 : decode cX1_init 17 = .ok (.putfield 15, 3) := by decide +kernel
theorem dX1_init_20 : decode cX1_init 20 = .ok (.aload_n 0, 1) := by decide +kernel
theorem dX1_init_21 : decode cX1_init 21 = .ok (.bipush 6, 2) := by decide +kernel
theorem dX1_init_23 : decode cX1_init 23 = .ok (.newarray .int, 2) := by decide +kernel
theorem dX1_init_25 : decode cX1_init 25 = .ok (.putfield 18, 3) := by decide +kernel
theorem dX1_init_28 : decode cX1_init 28 = .ok (.aload_n 0, 1) := by decide +kernel
theorem dX1_init_29 : decode cX1_init 29 = .ok (.bipush 6, 2) := by decide +kernel
theorem dX1_init_31 : decode cX1_init 31 = .ok (.newarray .int, 2) := by decide +kernel
theorem dX1_init_33 : decode cX1_init 33 = .ok (.putfield 21, 3) := by decide +kernel
theorem dX1_init_36 : decode cX1_init 36 = .ok (.aload_n 0, 1) := by decide +kernel
theorem dX1_init_37 : decode cX1_init 37 = .ok (.bipush 6, 2) := by decide +kernel
theorem dX1_init_39 : decode cX1_init 39 = .ok (.newarray .int, 2) := by decide +kernel
theorem dX1_init_41 : decode cX1_init 41 = .ok (.putfield 24, 3) := by decide +kernel
theorem dX1_init_44 : decode cX1_init 44 = .ok (.aload_n 0, 1) := by decide +kernel
theorem dX1_init_45 : decode cX1_init 45 = .ok (.bipush 6, 2) := by decide +kernel
theorem dX1_init_47 : decode cX1_init 47 = .ok (.newarray .int, 2) := by decide +kernel
theorem dX1_init_49 : decode cX1_init 49 = .ok (.putfield 27, 3) := by decide +kernel
theorem dX1_init_52 : decode cX1_init 52 = .ok (.aload_n 0, 1) := by decide +kernel
theorem dX1_init_53 : decode cX1_init 53 = .ok (.iconst 0, 1) := by decide +kernel
theorem dX1_init_54 : decode cX1_init 54 = .ok (.putfield 30, 3) := by decide +kernel
theorem dX1_init_57 : decode cX1_init 57 = .ok (.return_, 1) := by decide +kernel
theorem dX1_become_0 : decode cX1_become 0 = .ok (.iconst 0, 1) := by decide +kernel
theorem dX1_become_1 : decode cX1_become 1 = .ok (.istore_n 2, 1) := by decide +kernel
theorem dX1_become_2 : decode cX1_become 2 = .ok (.iload_n 2, 1) := by decide +kernel
theorem dX1_become_3 : decode cX1_become 3 = .ok (.bipush 6, 2) := by decide +kernel
theorem dX1_become_5 : decode cX1_become 5 = .ok (.if_icmp .ge 57, 3) := by decide +kernel
theorem dX1_become_8 : decode cX1_become 8 = .ok (.aload_n 0, 1) := by decide +kernel
theorem dX1_become_9 : decode cX1_become 9 = .ok (.getfield 9, 3) := by decide +kernel
theorem dX1_become_12 : decode cX1_become 12 = .ok (.iload_n 2, 1) := by decide +kernel
theorem dX1_become_13 : decode cX1_become 13 = .ok (.aload_n 1, 1) := by decide +kernel
theorem dX1_become_14 : decode cX1_become 14 = .ok (.getfield 9, 3) := by decide +kernel
theorem dX1_become_17 : decode cX1_become 17 = .ok (.iload_n 2, 1) := by decide +kernel
theorem dX1_become_18 : decode cX1_become 18 = .ok (.iaload, 1) := by decide +kernel
theorem dX1_become_19 : decode cX1_become 19 = .ok (.iastore, 1) := by decide +kernel
theorem dX1_become_20 : decode cX1_become 20 = .ok (.aload_n 0, 1) := by decide +kernel
theorem dX1_become_21 : decode cX1_become 21 = .ok (.getfield 15, 3) := by decide +kernel
theorem dX1_become_24 : decode cX1_become 24 = .ok (.iload_n 2, 1) := by decide +kernel
theorem dX1_become_25 : decode cX1_become 25 = .ok (.aload_n 1, 1) := by decide +kernel
theorem dX1_become_26 : decode cX1_become 26 = .ok (.getfield 15, 3) := by decide +kernel
theorem dX1_become_29 : decode cX1_become 29 = .ok (.iload_n 2, 1) := by decide +kernel
theorem dX1_become_30 : decode cX1_become 30 = .ok (.iaload, 1) := by decide +kernel
theorem dX1_become_31 : decode cX1_become 31 = .ok (.iastore, 1) := by decide +kernel
theorem dX1_become_32 : decode cX1_become 32 = .ok (.aload_n 0, 1) := by decide +kernel
theorem dX1_become_33 : decode cX1_become 33 = .ok (.getfield 18, 3) := by decide +kernel
theorem dX1_become_36 : decode cX1_become 36 = .ok (.iload_n 2, 1) := by decide +kernel
theorem dX1_become_37 : decode cX1_become 37 = .ok (.aload_n 1, 1) := by decide +kernel
theorem dX1_become_38 : decode cX1_become 38 = .ok (.getfield 18, 3) := by decide +kernel
theorem dX1_become_41 : decode cX1_become 41 = .ok (.iload_n 2, 1) := by decide +kernel
theorem dX1_become_42 : decode cX1_become 42 = .ok (.iaload, 1) := by decide +kernel
theorem dX1_become_43 : decode cX1_become 43 = .ok (.iastore, 1) := by decide +kernel
theorem dX1_become_44 : decode cX1_become 44 = .ok (.aload_n 0, 1) := by decide +kernel
theorem dX1_become_45 : decode cX1_become 45 = .ok (.getfield 21, 3) := by decide +kernel
theorem dX1_become_48 : decode cX1_become 48 = .ok (.iload_n 2, 1) := by decide +kernel
theorem dX1_become_49 : decode cX1_become 49 = .ok (.aload_n 1, 1) := by decide +kernel
theorem dX1_become_50 : decode cX1_become 50 = .ok (.getfield 21, 3) := by decide +kernel
theorem dX1_become_53 : decode cX1_become 53 = .ok (.iload_n 2, 1) := by decide +kernel
theorem dX1_become_54 : decode cX1_become 54 = .ok (.iaload, 1) := by decide +kernel
theorem dX1_become_55 : decode cX1_become 55 = .ok (.iastore, 1) := by decide +kernel
theorem dX1_become_56 : decode cX1_become 56 = .ok (.iinc 2 1, 3) := by decide +kernel
theorem dX1_become_59 : decode cX1_become 59 = .ok (.goto (-57), 3) := by decide +kernel
theorem dX1_become_62 : decode cX1_become 62 = .ok (.aload_n 0, 1) := by decide +kernel
theorem dX1_become_63 : decode cX1_become 63 = .ok (.aload_n 1, 1) := by decide +kernel
theorem dX1_become_64 : decode cX1_become 64 = .ok (.getfield 30, 3) := by decide +kernel
theorem dX1_become_67 : decode cX1_become 67 = .ok (.putfield 30, 3) := by decide +kernel
theorem dX1_become_70 : decode cX1_become 70 = .ok (.return_, 1) := by decide +kernel
set_option maxRecDepth 20000 in
theorem ggX1_turnWay_X2_turned : GoodIn wsX1_turnWay wsX2_turned := goodIn_r _ [4] (by decide +kernel) (by decide +kernel)
set_option maxRecDepth 20000 in
theorem gX1_turnWay_X2_turned_n34 : GoodIn wsX1_turnWay (wsX2_turned) := ggX1_turnWay_X2_turned
theorem dX1_turnWay_0 : decode cX1_turnWay 0 = .ok (.aload_n 0, 1) := by decide +kernel
theorem dX1_turnWay_1 : decode cX1_turnWay 1 = .ok (.getfield 9, 3) := by decide +kernel
theorem dX1_turnWay_4 : decode cX1_turnWay 4 = .ok (.iload_n 1, 1) := by decide +kernel
theorem dX1_turnWay_5 : decode cX1_turnWay 5 = .ok (.aload_n 0, 1) := by decide +kernel
theorem dX1_turnWay_6 : decode cX1_turnWay 6 = .ok (.getfield 9, 3) := by decide +kernel
theorem dX1_turnWay_9 : decode cX1_turnWay 9 = .ok (.iload_n 1, 1) := by decide +kernel
theorem dX1_turnWay_10 : decode cX1_turnWay 10 = .ok (.iaload, 1) := by decide +kernel
theorem dX1_turnWay_11 : decode cX1_turnWay 11 = .ok (.iload_n 2, 1) := by decide +kernel
theorem dX1_turnWay_12 : decode cX1_turnWay 12 = .ok (.invokestatic 34, 3) := by decide +kernel
theorem dX1_turnWay_15 : decode cX1_turnWay 15 = .ok (.iastore, 1) := by decide +kernel
theorem dX1_turnWay_16 : decode cX1_turnWay 16 = .ok (.aload_n 0, 1) := by decide +kernel
theorem dX1_turnWay_17 : decode cX1_turnWay 17 = .ok (.getfield 9, 3) := by decide +kernel
theorem dX1_turnWay_20 : decode cX1_turnWay 20 = .ok (.iload_n 2, 1) := by decide +kernel
theorem dX1_turnWay_21 : decode cX1_turnWay 21 = .ok (.aload_n 0, 1) := by decide +kernel
theorem dX1_turnWay_22 : decode cX1_turnWay 22 = .ok (.getfield 9, 3) := by decide +kernel
theorem dX1_turnWay_25 : decode cX1_turnWay 25 = .ok (.iload_n 2, 1) := by decide +kernel
theorem dX1_turnWay_26 : decode cX1_turnWay 26 = .ok (.iaload, 1) := by decide +kernel
theorem dX1_turnWay_27 : decode cX1_turnWay 27 = .ok (.iload_n 1, 1) := by decide +kernel
theorem dX1_turnWay_28 : decode cX1_turnWay 28 = .ok (.invokestatic 34, 3) := by decide +kernel
theorem dX1_turnWay_31 : decode cX1_turnWay 31 = .ok (.iastore, 1) := by decide +kernel
theorem dX1_turnWay_32 : decode cX1_turnWay 32 = .ok (.return_, 1) := by decide +kernel
set_option maxRecDepth 20000 in
theorem ggX1_bans_X2_has : GoodIn wsX1_bans wsX2_has := goodIn_r _ [7] (by decide +kernel) (by decide +kernel)
set_option maxRecDepth 20000 in
theorem gX1_bans_X2_has_n43 : GoodIn wsX1_bans (wsX2_has) := ggX1_bans_X2_has
theorem dX1_bans_0 : decode cX1_bans 0 = .ok (.aload_n 0, 1) := by decide +kernel
theorem dX1_bans_1 : decode cX1_bans 1 = .ok (.getfield 15, 3) := by decide +kernel
theorem dX1_bans_4 : decode cX1_bans 4 = .ok (.iload_n 3, 1) := by decide +kernel
theorem dX1_bans_5 : decode cX1_bans 5 = .ok (.iaload, 1) := by decide +kernel
theorem dX1_bans_6 : decode cX1_bans 6 = .ok (.aload_n 1, 1) := by decide +kernel
theorem dX1_bans_7 : decode cX1_bans 7 = .ok (.getfield 38, 3) := by decide +kernel
theorem dX1_bans_10 : decode cX1_bans 10 = .ok (.iload_n 2, 1) := by decide +kernel
theorem dX1_bans_11 : decode cX1_bans 11 = .ok (.iaload, 1) := by decide +kernel
theorem dX1_bans_12 : decode cX1_bans 12 = .ok (.invokestatic 43, 3) := by decide +kernel
theorem dX1_bans_15 : decode cX1_bans 15 = .ok (.ifCond .ne 19, 3) := by decide +kernel
theorem dX1_bans_18 : decode cX1_bans 18 = .ok (.aload_n 0, 1) := by decide +kernel
theorem dX1_bans_19 : decode cX1_bans 19 = .ok (.getfield 18, 3) := by decide +kernel
theorem dX1_bans_22 : decode cX1_bans 22 = .ok (.iload_n 3, 1) := by decide +kernel
theorem dX1_bans_23 : decode cX1_bans 23 = .ok (.iaload, 1) := by decide +kernel
theorem dX1_bans_24 : decode cX1_bans 24 = .ok (.aload_n 1, 1) := by decide +kernel
theorem dX1_bans_25 : decode cX1_bans 25 = .ok (.getfield 47, 3) := by decide +kernel
theorem dX1_bans_28 : decode cX1_bans 28 = .ok (.iload_n 2, 1) := by decide +kernel
theorem dX1_bans_29 : decode cX1_bans 29 = .ok (.iaload, 1) := by decide +kernel
theorem dX1_bans_30 : decode cX1_bans 30 = .ok (.iand, 1) := by decide +kernel
theorem dX1_bans_31 : decode cX1_bans 31 = .ok (.ifCond .eq 7, 3) := by decide +kernel
theorem dX1_bans_34 : decode cX1_bans 34 = .ok (.iconst 1, 1) := by decide +kernel
theorem dX1_bans_35 : decode cX1_bans 35 = .ok (.goto 4, 3) := by decide +kernel
theorem dX1_bans_38 : decode cX1_bans 38 = .ok (.iconst 0, 1) := by decide +kernel
theorem dX1_bans_39 : decode cX1_bans 39 = .ok (.ireturn, 1) := by decide +kernel
set_option maxRecDepth 20000 in
theorem ggX1_welcome_X1_bans : GoodIn wsX1_welcome wsX1_bans := goodIn_r _ [6, 7, 8, 9, 10, 11, 12, 13, 21, 22, 23, 24, 25, 26, 27, 14, 15, 16, 17, 18, 19, 20] (by decide +kernel) (by decide +kernel)
set_option maxRecDepth 20000 in
theorem gX1_welcome_X1_bans : GoodIn wsX1_welcome (wsV RX1 53 RX1 yX1_bans wsX1_bans) := goodIn_app (goodIn_of _ (by decide +kernel)) ggX1_welcome_X1_bans
theorem dX1_welcome_0 : decode cX1_welcome 0 = .ok (.iconst 0, 1) := by decide +kernel
theorem dX1_welcome_1 : decode cX1_welcome 1 = .ok (.istore_n 3, 1) := by decide +kernel
theorem dX1_welcome_2 : decode cX1_welcome 2 = .ok (.iconst 0, 1) := by decide +kernel
theorem dX1_welcome_3 : decode cX1_welcome 3 = .ok (.istore 4, 2) := by decide +kernel
theorem dX1_welcome_5 : decode cX1_welcome 5 = .ok (.iload 4, 2) := by decide +kernel
theorem dX1_welcome_7 : decode cX1_welcome 7 = .ok (.aload_n 1, 1) := by decide +kernel
theorem dX1_welcome_8 : decode cX1_welcome 8 = .ok (.getfield 50, 3) := by decide +kernel
theorem dX1_welcome_11 : decode cX1_welcome 11 = .ok (.if_icmp .ge 27, 3) := by decide +kernel
theorem dX1_welcome_14 : decode cX1_welcome 14 = .ok (.aload_n 0, 1) := by decide +kernel
theorem dX1_welcome_15 : decode cX1_welcome 15 = .ok (.aload_n 1, 1) := by decide +kernel
theorem dX1_welcome_16 : decode cX1_welcome 16 = .ok (.iload 4, 2) := by decide +kernel
theorem dX1_welcome_18 : decode cX1_welcome 18 = .ok (.iload_n 2, 1) := by decide +kernel
theorem dX1_welcome_19 : decode cX1_welcome 19 = .ok (.invokevirtual 53, 3) := by decide +kernel
theorem dX1_welcome_22 : decode cX1_welcome 22 = .ok (.ifCond .ne 10, 3) := by decide +kernel
theorem dX1_welcome_25 : decode cX1_welcome 25 = .ok (.iload_n 3, 1) := by decide +kernel
theorem dX1_welcome_26 : decode cX1_welcome 26 = .ok (.iconst 1, 1) := by decide +kernel
theorem dX1_welcome_27 : decode cX1_welcome 27 = .ok (.iload 4, 2) := by decide +kernel
theorem dX1_welcome_29 : decode cX1_welcome 29 = .ok (.ishl, 1) := by decide +kernel
theorem dX1_welcome_30 : decode cX1_welcome 30 = .ok (.ior, 1) := by decide +kernel
theorem dX1_welcome_31 : decode cX1_welcome 31 = .ok (.istore_n 3, 1) := by decide +kernel
theorem dX1_welcome_32 : decode cX1_welcome 32 = .ok (.iinc 4 1, 3) := by decide +kernel
theorem dX1_welcome_35 : decode cX1_welcome 35 = .ok (.goto (-30), 3) := by decide +kernel
theorem dX1_welcome_38 : decode cX1_welcome 38 = .ok (.iload_n 3, 1) := by decide +kernel
theorem dX1_welcome_39 : decode cX1_welcome 39 = .ok (.ireturn, 1) := by decide +kernel
set_option maxRecDepth 20000 in
theorem ggX1_count_X2_size : GoodIn wsX1_count wsX2_size := goodIn_r _ [4, 5, 6, 7, 8, 9, 10, 11] (by decide +kernel) (by decide +kernel)
set_option maxRecDepth 20000 in
theorem gX1_count_X2_size_n57 : GoodIn wsX1_count (wsX2_size) := ggX1_count_X2_size
theorem dX1_count_0 : decode cX1_count 0 = .ok (.iconst 0, 1) := by decide +kernel
theorem dX1_count_1 : decode cX1_count 1 = .ok (.istore_n 2, 1) := by decide +kernel
theorem dX1_count_2 : decode cX1_count 2 = .ok (.iconst 0, 1) := by decide +kernel
theorem dX1_count_3 : decode cX1_count 3 = .ok (.istore_n 3, 1) := by decide +kernel
theorem dX1_count_4 : decode cX1_count 4 = .ok (.iload_n 3, 1) := by decide +kernel
theorem dX1_count_5 : decode cX1_count 5 = .ok (.bipush 6, 2) := by decide +kernel
theorem dX1_count_7 : decode cX1_count 7 = .ok (.if_icmp .ge 23, 3) := by decide +kernel
theorem dX1_count_10 : decode cX1_count 10 = .ok (.iload_n 2, 1) := by decide +kernel
theorem dX1_count_11 : decode cX1_count 11 = .ok (.aload_n 0, 1) := by decide +kernel
theorem dX1_count_12 : decode cX1_count 12 = .ok (.getfield 21, 3) := by decide +kernel
theorem dX1_count_15 : decode cX1_count 15 = .ok (.iload_n 3, 1) := by decide +kernel
theorem dX1_count_16 : decode cX1_count 16 = .ok (.iaload, 1) := by decide +kernel
theorem dX1_count_17 : decode cX1_count 17 = .ok (.iload_n 1, 1) := by decide +kernel
theorem dX1_count_18 : decode cX1_count 18 = .ok (.iand, 1) := by decide +kernel
theorem dX1_count_19 : decode cX1_count 19 = .ok (.invokestatic 57, 3) := by decide +kernel
theorem dX1_count_22 : decode cX1_count 22 = .ok (.iadd, 1) := by decide +kernel
theorem dX1_count_23 : decode cX1_count 23 = .ok (.istore_n 2, 1) := by decide +kernel
theorem dX1_count_24 : decode cX1_count 24 = .ok (.iinc 3 1, 3) := by decide +kernel
theorem dX1_count_27 : decode cX1_count 27 = .ok (.goto (-23), 3) := by decide +kernel
theorem dX1_count_30 : decode cX1_count 30 = .ok (.iload_n 2, 1) := by decide +kernel
theorem dX1_count_31 : decode cX1_count 31 = .ok (.ireturn, 1) := by decide +kernel
set_option maxRecDepth 20000 in
theorem ggX1_live_X1_welcome : GoodIn wsX1_live wsX1_welcome := goodIn_r _ [6, 7, 8, 9, 10, 5, 11, 12, 13, 14, 15, 16, 17, 18, 58, 59, 60, 61, 62, 63, 64, 51, 52, 53, 54, 55, 56, 57] (by decide +kernel) (by decide +kernel)
set_option maxRecDepth 20000 in
theorem gX1_live_X1_welcome : GoodIn wsX1_live (wsV RX1 61 RX1 yX1_welcome wsX1_welcome) := goodIn_app (goodIn_of _ (by decide +kernel)) ggX1_live_X1_welcome
set_option maxRecDepth 20000 in
theorem ggX1_live_X1_hush : GoodIn wsX1_live wsX1_hush := goodIn_r _ [22, 23, 24, 1, 25, 26, 17, 27, 28, 29, 30, 31, 32, 33, 34, 51, 52, 53, 54, 55, 56, 57] (by decide +kernel) (by decide +kernel)
set_option maxRecDepth 20000 in
theorem gX1_live_X1_hush : GoodIn wsX1_live (wsV RX1 65 RX1 yX1_hush wsX1_hush) := goodIn_app (goodIn_of _ (by decide +kernel)) ggX1_live_X1_hush
set_option maxRecDepth 20000 in
theorem ggX1_live_X1_spread : GoodIn wsX1_live wsX1_spread := goodIn_r _ [38, 23, 24, 39, 40, 41, 5, 42, 43, 16, 17, 18, 44, 45, 46, 47, 1, 7, 12, 13, 48, 49, 50, 51, 52, 53, 54, 55, 56, 57, 58, 59, 60, 61, 62, 63, 64] (by decide +kernel) (by decide +kernel)
set_option maxRecDepth 20000 in
theorem gX1_live_X1_spread : GoodIn wsX1_live (wsV RX1 68 RX1 yX1_spread wsX1_spread) := goodIn_app (goodIn_of _ (by decide +kernel)) ggX1_live_X1_spread
theorem dX1_live_0 : decode cX1_live 0 = .ok (.iconst 0, 1) := by decide +kernel
theorem dX1_live_1 : decode cX1_live 1 = .ok (.istore_n 3, 1) := by decide +kernel
theorem dX1_live_2 : decode cX1_live 2 = .ok (.iload_n 3, 1) := by decide +kernel
theorem dX1_live_3 : decode cX1_live 3 = .ok (.bipush 6, 2) := by decide +kernel
theorem dX1_live_5 : decode cX1_live 5 = .ok (.if_icmp .ge 21, 3) := by decide +kernel
theorem dX1_live_8 : decode cX1_live 8 = .ok (.aload_n 0, 1) := by decide +kernel
theorem dX1_live_9 : decode cX1_live 9 = .ok (.getfield 24, 3) := by decide +kernel
theorem dX1_live_12 : decode cX1_live 12 = .ok (.iload_n 3, 1) := by decide +kernel
theorem dX1_live_13 : decode cX1_live 13 = .ok (.aload_n 0, 1) := by decide +kernel
theorem dX1_live_14 : decode cX1_live 14 = .ok (.aload_n 1, 1) := by decide +kernel
theorem dX1_live_15 : decode cX1_live 15 = .ok (.iload_n 3, 1) := by decide +kernel
theorem dX1_live_16 : decode cX1_live 16 = .ok (.invokevirtual 61, 3) := by decide +kernel
theorem dX1_live_19 : decode cX1_live 19 = .ok (.iastore, 1) := by decide +kernel
theorem dX1_live_20 : decode cX1_live 20 = .ok (.iinc 3 1, 3) := by decide +kernel
theorem dX1_live_23 : decode cX1_live 23 = .ok (.goto (-21), 3) := by decide +kernel
theorem dX1_live_26 : decode cX1_live 26 = .ok (.iconst 1, 1) := by decide +kernel
theorem dX1_live_27 : decode cX1_live 27 = .ok (.istore_n 3, 1) := by decide +kernel
theorem dX1_live_28 : decode cX1_live 28 = .ok (.iconst 0, 1) := by decide +kernel
theorem dX1_live_29 : decode cX1_live 29 = .ok (.istore 4, 2) := by decide +kernel
theorem dX1_live_31 : decode cX1_live 31 = .ok (.iload 4, 2) := by decide +kernel
theorem dX1_live_33 : decode cX1_live 33 = .ok (.iload_n 2, 1) := by decide +kernel
theorem dX1_live_34 : decode cX1_live 34 = .ok (.if_icmp .ge 23, 3) := by decide +kernel
theorem dX1_live_37 : decode cX1_live 37 = .ok (.iload_n 3, 1) := by decide +kernel
theorem dX1_live_38 : decode cX1_live 38 = .ok (.ifCond .eq 19, 3) := by decide +kernel
theorem dX1_live_41 : decode cX1_live 41 = .ok (.aload_n 0, 1) := by decide +kernel
theorem dX1_live_42 : decode cX1_live 42 = .ok (.invokevirtual 65, 3) := by decide +kernel
theorem dX1_live_45 : decode cX1_live 45 = .ok (.aload_n 0, 1) := by decide +kernel
theorem dX1_live_46 : decode cX1_live 46 = .ok (.aload_n 1, 1) := by decide +kernel
theorem dX1_live_47 : decode cX1_live 47 = .ok (.invokevirtual 68, 3) := by decide +kernel
theorem dX1_live_50 : decode cX1_live 50 = .ok (.istore_n 3, 1) := by decide +kernel
theorem dX1_live_51 : decode cX1_live 51 = .ok (.iinc 4 1, 3) := by decide +kernel
theorem dX1_live_54 : decode cX1_live 54 = .ok (.goto (-23), 3) := by decide +kernel
theorem dX1_live_57 : decode cX1_live 57 = .ok (.return_, 1) := by decide +kernel
set_option maxRecDepth 20000 in
theorem ggX1_hush_X2_size : GoodIn wsX1_hush wsX2_size := goodIn_r _ [7, 8, 9, 10, 11, 12, 13, 14] (by decide +kernel) (by decide +kernel)
set_option maxRecDepth 20000 in
theorem gX1_hush_X2_size_n57 : GoodIn wsX1_hush (wsX2_size) := ggX1_hush_X2_size
theorem dX1_hush_0 : decode cX1_hush 0 = .ok (.iconst 0, 1) := by decide +kernel
theorem dX1_hush_1 : decode cX1_hush 1 = .ok (.istore_n 1, 1) := by decide +kernel
theorem dX1_hush_2 : decode cX1_hush 2 = .ok (.iload_n 1, 1) := by decide +kernel
theorem dX1_hush_3 : decode cX1_hush 3 = .ok (.bipush 6, 2) := by decide +kernel
theorem dX1_hush_5 : decode cX1_hush 5 = .ok (.if_icmp .ge 55, 3) := by decide +kernel
theorem dX1_hush_8 : decode cX1_hush 8 = .ok (.aload_n 0, 1) := by decide +kernel
theorem dX1_hush_9 : decode cX1_hush 9 = .ok (.getfield 27, 3) := by decide +kernel
theorem dX1_hush_12 : decode cX1_hush 12 = .ok (.iload_n 1, 1) := by decide +kernel
theorem dX1_hush_13 : decode cX1_hush 13 = .ok (.aload_n 0, 1) := by decide +kernel
theorem dX1_hush_14 : decode cX1_hush 14 = .ok (.getfield 21, 3) := by decide +kernel
theorem dX1_hush_17 : decode cX1_hush 17 = .ok (.iload_n 1, 1) := by decide +kernel
theorem dX1_hush_18 : decode cX1_hush 18 = .ok (.iaload, 1) := by decide +kernel
theorem dX1_hush_19 : decode cX1_hush 19 = .ok (.aload_n 0, 1) := by decide +kernel
theorem dX1_hush_20 : decode cX1_hush 20 = .ok (.getfield 24, 3) := by decide +kernel
theorem dX1_hush_23 : decode cX1_hush 23 = .ok (.iload_n 1, 1) := by decide +kernel
theorem dX1_hush_24 : decode cX1_hush 24 = .ok (.iaload, 1) := by decide +kernel
theorem dX1_hush_25 : decode cX1_hush 25 = .ok (.iand, 1) := by decide +kernel
theorem dX1_hush_26 : decode cX1_hush 26 = .ok (.iastore, 1) := by decide +kernel
theorem dX1_hush_27 : decode cX1_hush 27 = .ok (.aload_n 0, 1) := by decide +kernel
theorem dX1_hush_28 : decode cX1_hush 28 = .ok (.dup, 1) := by decide +kernel
theorem dX1_hush_29 : decode cX1_hush 29 = .ok (.getfield 30, 3) := by decide +kernel
theorem dX1_hush_32 : decode cX1_hush 32 = .ok (.aload_n 0, 1) := by decide +kernel
theorem dX1_hush_33 : decode cX1_hush 33 = .ok (.getfield 21, 3) := by decide +kernel
theorem dX1_hush_36 : decode cX1_hush 36 = .ok (.iload_n 1, 1) := by decide +kernel
theorem dX1_hush_37 : decode cX1_hush 37 = .ok (.iaload, 1) := by decide +kernel
theorem dX1_hush_38 : decode cX1_hush 38 = .ok (.aload_n 0, 1) := by decide +kernel
theorem dX1_hush_39 : decode cX1_hush 39 = .ok (.getfield 24, 3) := by decide +kernel
theorem dX1_hush_42 : decode cX1_hush 42 = .ok (.iload_n 1, 1) := by decide +kernel
theorem dX1_hush_43 : decode cX1_hush 43 = .ok (.iaload, 1) := by decide +kernel
theorem dX1_hush_44 : decode cX1_hush 44 = .ok (.iconst (-1), 1) := by decide +kernel
theorem dX1_hush_45 : decode cX1_hush 45 = .ok (.ixor, 1) := by decide +kernel
theorem dX1_hush_46 : decode cX1_hush 46 = .ok (.iand, 1) := by decide +kernel
theorem dX1_hush_47 : decode cX1_hush 47 = .ok (.invokestatic 57, 3) := by decide +kernel
theorem dX1_hush_50 : decode cX1_hush 50 = .ok (.iadd, 1) := by decide +kernel
theorem dX1_hush_51 : decode cX1_hush 51 = .ok (.putfield 30, 3) := by decide +kernel
theorem dX1_hush_54 : decode cX1_hush 54 = .ok (.iinc 1 1, 3) := by decide +kernel
theorem dX1_hush_57 : decode cX1_hush 57 = .ok (.goto (-55), 3) := by decide +kernel
theorem dX1_hush_60 : decode cX1_hush 60 = .ok (.return_, 1) := by decide +kernel
set_option maxRecDepth 20000 in
theorem ggX1_spread_X1_arriving : GoodIn wsX1_spread wsX1_arriving := goodIn_r _ [7, 8, 1, 9, 10, 11, 23, 24, 25, 26, 27, 28, 29] (by decide +kernel) (by decide +kernel)
set_option maxRecDepth 20000 in
theorem gX1_spread_X1_arriving : GoodIn wsX1_spread (wsV RX1 72 RX1 yX1_arriving wsX1_arriving) := goodIn_app (goodIn_of _ (by decide +kernel)) ggX1_spread_X1_arriving
set_option maxRecDepth 20000 in
theorem ggX1_spread_X1_admitted : GoodIn wsX1_spread wsX1_admitted := goodIn_r _ [15, 16, 17, 18, 19, 20, 9, 10, 11, 21, 22, 23, 24, 25, 26, 27, 28, 29, 30, 31, 32, 33, 34, 35, 36] (by decide +kernel) (by decide +kernel)
set_option maxRecDepth 20000 in
theorem gX1_spread_X1_admitted : GoodIn wsX1_spread (wsV RX1 75 RX1 yX1_admitted wsX1_admitted) := goodIn_app (goodIn_of _ (by decide +kernel)) ggX1_spread_X1_admitted
theorem dX1_spread_0 : decode cX1_spread 0 = .ok (.iconst 0, 1) := by decide +kernel
theorem dX1_spread_1 : decode cX1_spread 1 = .ok (.istore_n 2, 1) := by decide +kernel
theorem dX1_spread_2 : decode cX1_spread 2 = .ok (.iconst 0, 1) := by decide +kernel
theorem dX1_spread_3 : decode cX1_spread 3 = .ok (.istore_n 3, 1) := by decide +kernel
theorem dX1_spread_4 : decode cX1_spread 4 = .ok (.iload_n 3, 1) := by decide +kernel
theorem dX1_spread_5 : decode cX1_spread 5 = .ok (.bipush 6, 2) := by decide +kernel
theorem dX1_spread_7 : decode cX1_spread 7 = .ok (.if_icmp .ge 58, 3) := by decide +kernel
theorem dX1_spread_10 : decode cX1_spread 10 = .ok (.aload_n 0, 1) := by decide +kernel
theorem dX1_spread_11 : decode cX1_spread 11 = .ok (.getfield 27, 3) := by decide +kernel
theorem dX1_spread_14 : decode cX1_spread 14 = .ok (.iload_n 3, 1) := by decide +kernel
theorem dX1_spread_15 : decode cX1_spread 15 = .ok (.iaload, 1) := by decide +kernel
theorem dX1_spread_16 : decode cX1_spread 16 = .ok (.aload_n 0, 1) := by decide +kernel
theorem dX1_spread_17 : decode cX1_spread 17 = .ok (.aload_n 1, 1) := by decide +kernel
theorem dX1_spread_18 : decode cX1_spread 18 = .ok (.iload_n 3, 1) := by decide +kernel
theorem dX1_spread_19 : decode cX1_spread 19 = .ok (.aload_n 0, 1) := by decide +kernel
theorem dX1_spread_20 : decode cX1_spread 20 = .ok (.iload_n 3, 1) := by decide +kernel
theorem dX1_spread_21 : decode cX1_spread 21 = .ok (.invokevirtual 72, 3) := by decide +kernel
theorem dX1_spread_24 : decode cX1_spread 24 = .ok (.invokevirtual 75, 3) := by decide +kernel
theorem dX1_spread_27 : decode cX1_spread 27 = .ok (.ior, 1) := by decide +kernel
theorem dX1_spread_28 : decode cX1_spread 28 = .ok (.istore 4, 2) := by decide +kernel
theorem dX1_spread_30 : decode cX1_spread 30 = .ok (.iload_n 2, 1) := by decide +kernel
theorem dX1_spread_31 : decode cX1_spread 31 = .ok (.ifCond .ne 14, 3) := by decide +kernel
theorem dX1_spread_34 : decode cX1_spread 34 = .ok (.iload 4, 2) := by decide +kernel
theorem dX1_spread_36 : decode cX1_spread 36 = .ok (.aload_n 0, 1) := by decide +kernel
theorem dX1_spread_37 : decode cX1_spread 37 = .ok (.getfield 21, 3) := by decide +kernel
theorem dX1_spread_40 : decode cX1_spread 40 = .ok (.iload_n 3, 1) := by decide +kernel
theorem dX1_spread_41 : decode cX1_spread 41 = .ok (.iaload, 1) := by decide +kernel
theorem dX1_spread_42 : decode cX1_spread 42 = .ok (.if_icmp .eq 7, 3) := by decide +kernel
theorem dX1_spread_45 : decode cX1_spread 45 = .ok (.iconst 1, 1) := by decide +kernel
theorem dX1_spread_46 : decode cX1_spread 46 = .ok (.goto 4, 3) := by decide +kernel
theorem dX1_spread_49 : decode cX1_spread 49 = .ok (.iconst 0, 1) := by decide +kernel
theorem dX1_spread_50 : decode cX1_spread 50 = .ok (.istore_n 2, 1) := by decide +kernel
theorem dX1_spread_51 : decode cX1_spread 51 = .ok (.aload_n 0, 1) := by decide +kernel
theorem dX1_spread_52 : decode cX1_spread 52 = .ok (.getfield 21, 3) := by decide +kernel
theorem dX1_spread_55 : decode cX1_spread 55 = .ok (.iload_n 3, 1) := by decide +kernel
theorem dX1_spread_56 : decode cX1_spread 56 = .ok (.iload 4, 2) := by decide +kernel
theorem dX1_spread_58 : decode cX1_spread 58 = .ok (.iastore, 1) := by decide +kernel
theorem dX1_spread_59 : decode cX1_spread 59 = .ok (.iinc 3 1, 3) := by decide +kernel
theorem dX1_spread_62 : decode cX1_spread 62 = .ok (.goto (-58), 3) := by decide +kernel
theorem dX1_spread_65 : decode cX1_spread 65 = .ok (.iload_n 2, 1) := by decide +kernel
theorem dX1_spread_66 : decode cX1_spread 66 = .ok (.ireturn, 1) := by decide +kernel
set_option maxRecDepth 20000 in
theorem ggX1_arriving_X2_has : GoodIn wsX1_arriving wsX2_has := goodIn_r _ [5] (by decide +kernel) (by decide +kernel)
set_option maxRecDepth 20000 in
theorem gX1_arriving_X2_has_n43 : GoodIn wsX1_arriving (wsX2_has) := ggX1_arriving_X2_has
theorem dX1_arriving_0 : decode cX1_arriving 0 = .ok (.iconst 0, 1) := by decide +kernel
theorem dX1_arriving_1 : decode cX1_arriving 1 = .ok (.istore_n 2, 1) := by decide +kernel
theorem dX1_arriving_2 : decode cX1_arriving 2 = .ok (.iconst 0, 1) := by decide +kernel
theorem dX1_arriving_3 : decode cX1_arriving 3 = .ok (.istore_n 3, 1) := by decide +kernel
theorem dX1_arriving_4 : decode cX1_arriving 4 = .ok (.iload_n 3, 1) := by decide +kernel
theorem dX1_arriving_5 : decode cX1_arriving 5 = .ok (.bipush 6, 2) := by decide +kernel
theorem dX1_arriving_7 : decode cX1_arriving 7 = .ok (.if_icmp .ge 31, 3) := by decide +kernel
theorem dX1_arriving_10 : decode cX1_arriving 10 = .ok (.aload_n 0, 1) := by decide +kernel
theorem dX1_arriving_11 : decode cX1_arriving 11 = .ok (.getfield 9, 3) := by decide +kernel
theorem dX1_arriving_14 : decode cX1_arriving 14 = .ok (.iload_n 1, 1) := by decide +kernel
theorem dX1_arriving_15 : decode cX1_arriving 15 = .ok (.iaload, 1) := by decide +kernel
theorem dX1_arriving_16 : decode cX1_arriving 16 = .ok (.iload_n 3, 1) := by decide +kernel
theorem dX1_arriving_17 : decode cX1_arriving 17 = .ok (.invokestatic 43, 3) := by decide +kernel
theorem dX1_arriving_20 : decode cX1_arriving 20 = .ok (.ifCond .eq 12, 3) := by decide +kernel
theorem dX1_arriving_23 : decode cX1_arriving 23 = .ok (.iload_n 2, 1) := by decide +kernel
theorem dX1_arriving_24 : decode cX1_arriving 24 = .ok (.aload_n 0, 1) := by decide +kernel
theorem dX1_arriving_25 : decode cX1_arriving 25 = .ok (.getfield 27, 3) := by decide +kernel
theorem dX1_arriving_28 : decode cX1_arriving 28 = .ok (.iload_n 3, 1) := by decide +kernel
theorem dX1_arriving_29 : decode cX1_arriving 29 = .ok (.iaload, 1) := by decide +kernel
theorem dX1_arriving_30 : decode cX1_arriving 30 = .ok (.ior, 1) := by decide +kernel
theorem dX1_arriving_31 : decode cX1_arriving 31 = .ok (.istore_n 2, 1) := by decide +kernel
theorem dX1_arriving_32 : decode cX1_arriving 32 = .ok (.iinc 3 1, 3) := by decide +kernel
theorem dX1_arriving_35 : decode cX1_arriving 35 = .ok (.goto (-31), 3) := by decide +kernel
theorem dX1_arriving_38 : decode cX1_arriving 38 = .ok (.iload_n 2, 1) := by decide +kernel
theorem dX1_arriving_39 : decode cX1_arriving 39 = .ok (.ireturn, 1) := by decide +kernel
set_option maxRecDepth 20000 in
theorem ggX1_admitted_X2_has : GoodIn wsX1_admitted wsX2_has := goodIn_r _ [8] (by decide +kernel) (by decide +kernel)
set_option maxRecDepth 20000 in
theorem gX1_admitted_X2_has_n43 : GoodIn wsX1_admitted (wsX2_has) := ggX1_admitted_X2_has
set_option maxRecDepth 20000 in
theorem ggX1_admitted_X2_smallestAlone : GoodIn wsX1_admitted wsX2_smallestAlone := goodIn_r _ [10] (by decide +kernel) (by decide +kernel)
set_option maxRecDepth 20000 in
theorem gX1_admitted_X2_smallestAlone_n82 : GoodIn wsX1_admitted (wsX2_smallestAlone) := ggX1_admitted_X2_smallestAlone
theorem dX1_admitted_0 : decode cX1_admitted 0 = .ok (.iload_n 3, 1) := by decide +kernel
theorem dX1_admitted_1 : decode cX1_admitted 1 = .ok (.aload_n 0, 1) := by decide +kernel
theorem dX1_admitted_2 : decode cX1_admitted 2 = .ok (.getfield 24, 3) := by decide +kernel
theorem dX1_admitted_5 : decode cX1_admitted 5 = .ok (.iload_n 2, 1) := by decide +kernel
theorem dX1_admitted_6 : decode cX1_admitted 6 = .ok (.iaload, 1) := by decide +kernel
theorem dX1_admitted_7 : decode cX1_admitted 7 = .ok (.iand, 1) := by decide +kernel
theorem dX1_admitted_8 : decode cX1_admitted 8 = .ok (.istore 4, 2) := by decide +kernel
theorem dX1_admitted_10 : decode cX1_admitted 10 = .ok (.iload_n 3, 1) := by decide +kernel
theorem dX1_admitted_11 : decode cX1_admitted 11 = .ok (.aload_n 0, 1) := by decide +kernel
theorem dX1_admitted_12 : decode cX1_admitted 12 = .ok (.getfield 24, 3) := by decide +kernel
theorem dX1_admitted_15 : decode cX1_admitted 15 = .ok (.iload_n 2, 1) := by decide +kernel
theorem dX1_admitted_16 : decode cX1_admitted 16 = .ok (.iaload, 1) := by decide +kernel
theorem dX1_admitted_17 : decode cX1_admitted 17 = .ok (.iconst (-1), 1) := by decide +kernel
theorem dX1_admitted_18 : decode cX1_admitted 18 = .ok (.ixor, 1) := by decide +kernel
theorem dX1_admitted_19 : decode cX1_admitted 19 = .ok (.iand, 1) := by decide +kernel
theorem dX1_admitted_20 : decode cX1_admitted 20 = .ok (.istore 5, 2) := by decide +kernel
theorem dX1_admitted_22 : decode cX1_admitted 22 = .ok (.iconst 0, 1) := by decide +kernel
theorem dX1_admitted_23 : decode cX1_admitted 23 = .ok (.istore 6, 2) := by decide +kernel
theorem dX1_admitted_25 : decode cX1_admitted 25 = .ok (.iload 6, 2) := by decide +kernel
theorem dX1_admitted_27 : decode cX1_admitted 27 = .ok (.aload_n 1, 1) := by decide +kernel
theorem dX1_admitted_28 : decode cX1_admitted 28 = .ok (.getfield 50, 3) := by decide +kernel
theorem dX1_admitted_31 : decode cX1_admitted 31 = .ok (.if_icmp .ge 60, 3) := by decide +kernel
theorem dX1_admitted_34 : decode cX1_admitted 34 = .ok (.iload 5, 2) := by decide +kernel
theorem dX1_admitted_36 : decode cX1_admitted 36 = .ok (.iload 6, 2) := by decide +kernel
theorem dX1_admitted_38 : decode cX1_admitted 38 = .ok (.invokestatic 43, 3) := by decide +kernel
theorem dX1_admitted_41 : decode cX1_admitted 41 = .ok (.ifCond .eq 44, 3) := by decide +kernel
theorem dX1_admitted_44 : decode cX1_admitted 44 = .ok (.aload_n 0, 1) := by decide +kernel
theorem dX1_admitted_45 : decode cX1_admitted 45 = .ok (.getfield 15, 3) := by decide +kernel
theorem dX1_admitted_48 : decode cX1_admitted 48 = .ok (.iload_n 2, 1) := by decide +kernel
theorem dX1_admitted_49 : decode cX1_admitted 49 = .ok (.iaload, 1) := by decide +kernel
theorem dX1_admitted_50 : decode cX1_admitted 50 = .ok (.aload_n 1, 1) := by decide +kernel
theorem dX1_admitted_51 : decode cX1_admitted 51 = .ok (.getfield 38, 3) := by decide +kernel
theorem dX1_admitted_54 : decode cX1_admitted 54 = .ok (.iload 6, 2) := by decide +kernel
theorem dX1_admitted_56 : decode cX1_admitted 56 = .ok (.iaload, 1) := by decide +kernel
theorem dX1_admitted_57 : decode cX1_admitted 57 = .ok (.invokestatic 43, 3) := by decide +kernel
theorem dX1_admitted_60 : decode cX1_admitted 60 = .ok (.ifCond .ne 25, 3) := by decide +kernel
theorem dX1_admitted_63 : decode cX1_admitted 63 = .ok (.iload 4, 2) := by decide +kernel
theorem dX1_admitted_65 : decode cX1_admitted 65 = .ok (.aload_n 1, 1) := by decide +kernel
theorem dX1_admitted_66 : decode cX1_admitted 66 = .ok (.getfield 79, 3) := by decide +kernel
theorem dX1_admitted_69 : decode cX1_admitted 69 = .ok (.iload 6, 2) := by decide +kernel
theorem dX1_admitted_71 : decode cX1_admitted 71 = .ok (.iaload, 1) := by decide +kernel
theorem dX1_admitted_72 : decode cX1_admitted 72 = .ok (.aload_n 0, 1) := by decide +kernel
theorem dX1_admitted_73 : decode cX1_admitted 73 = .ok (.getfield 24, 3) := by decide +kernel
theorem dX1_admitted_76 : decode cX1_admitted 76 = .ok (.iload_n 2, 1) := by decide +kernel
theorem dX1_admitted_77 : decode cX1_admitted 77 = .ok (.iaload, 1) := by decide +kernel
theorem dX1_admitted_78 : decode cX1_admitted 78 = .ok (.iand, 1) := by decide +kernel
theorem dX1_admitted_79 : decode cX1_admitted 79 = .ok (.invokestatic 82, 3) := by decide +kernel
theorem dX1_admitted_82 : decode cX1_admitted 82 = .ok (.ior, 1) := by decide +kernel
theorem dX1_admitted_83 : decode cX1_admitted 83 = .ok (.istore 4, 2) := by decide +kernel
theorem dX1_admitted_85 : decode cX1_admitted 85 = .ok (.iinc 6 1, 3) := by decide +kernel
theorem dX1_admitted_88 : decode cX1_admitted 88 = .ok (.goto (-63), 3) := by decide +kernel
theorem dX1_admitted_91 : decode cX1_admitted 91 = .ok (.iload 4, 2) := by decide +kernel
theorem dX1_admitted_93 : decode cX1_admitted 93 = .ok (.ireturn, 1) := by decide +kernel
end
section
set_option maxRecDepth 20000 in
theorem ggX2_init_X0_init : GoodIn wsX2_init wsX0_init := goodIn_r _ [16, 17, 2, 3, 18, 19, 20, 21, 22, 23, 24, 25, 37, 38, 39, 40, 41, 42, 43] (by decide +kernel) (by decide +kernel)
set_option maxRecDepth 20000 in
theorem gX2_init_X0_init : GoodIn wsX2_init (wsX0_init) := ggX2_init_X0_init
set_option maxRecDepth 20000 in
theorem ggX2_init_X1_init : GoodIn wsX2_init wsX1_init := goodIn_r _ [28, 29, 2, 3, 19, 30, 31, 32, 33, 34, 35, 36, 48, 49, 50, 51, 52, 53, 54] (by decide +kernel) (by decide +kernel)
set_option maxRecDepth 20000 in
theorem gX2_init_X1_init : GoodIn wsX2_init (wsX1_init) := ggX2_init_X1_init
theorem dX2_init_0 : decode cX2_init 0 = .ok (.aload_n 0, 1) := by decide +kernel
theorem dX2_init_1 : decode cX2_init 1 = .ok (.invokespecial 1, 3) := by decide +kernel
theorem dX2_init_4 : decode cX2_init 4 = .ok (.aload_n 0, 1) := by decide +kernel
theorem dX2_init_5 : decode cX2_init 5 = .ok (.new 7, 3) := by decide +kernel
theorem dX2_init_8 : decode cX2_init 8 = .ok (.dup, 1) := by decide +kernel
theorem dX2_init_9 : decode cX2_init 9 = .ok (.invokespecial 9, 3) := by decide +kernel
theorem dX2_init_12 : decode cX2_init 12 = .ok (.putfield 10, 3) := by decide +kernel
theorem dX2_init_15 : decode cX2_init 15 = .ok (.aload_n 0, 1) := by decide +kernel
theorem dX2_init_16 : decode cX2_init 16 = .ok (.new 16, 3) := by decide +kernel
theorem dX2_init_19 : decode cX2_init 19 = .ok (.dup, 1) := by decide +kernel
theorem dX2_init_20 : decode cX2_init 20 = .ok (.invokespecial 18, 3) := by decide +kernel
theorem dX2_init_23 : decode cX2_init 23 = .ok (.putfield 19, 3) := by decide +kernel
theorem dX2_init_26 : decode cX2_init 26 = .ok (.aload_n 0, 1) := by decide +kernel
theorem dX2_init_27 : decode cX2_init 27 = .ok (.new 16, 3) := by decide +kernel
theorem dX2_init_30 : decode cX2_init 30 = .ok (.dup, 1) := by decide +kernel
theorem dX2_init_31 : decode cX2_init 31 = .ok (.invokespecial 18, 3) := by decide +kernel
theorem dX2_init_34 : decode cX2_init 34 = .ok (.putfield 23, 3) := by decide +kernel
theorem dX2_init_37 : decode cX2_init 37 = .ok (.aload_n 0, 1) := by decide +kernel
theorem dX2_init_38 : decode cX2_init 38 = .ok (.iconst 0, 1) := by decide +kernel
theorem dX2_init_39 : decode cX2_init 39 = .ok (.putfield 26, 3) := by decide +kernel
theorem dX2_init_42 : decode cX2_init 42 = .ok (.return_, 1) := by decide +kernel
set_option maxRecDepth 20000 in
theorem ggX2_addFable_X2_needMoral : GoodIn wsX2_addFable wsX2_needMoral := goodIn_ca (goodIn_r _ [5, 6, 7] (by decide +kernel) (by decide +kernel)) (goodIn_sub (fun _ h => List.mem_cons_of_mem _ (List.mem_append_left _ (List.mem_append_right _ h))) (by decide +kernel))
set_option maxRecDepth 20000 in
theorem gX2_addFable_X2_needMoral : GoodIn wsX2_addFable (va_wsS RX2 30 yX2_needMoral wsX2_needMoral) := goodIn_app (goodIn_of _ (by decide +kernel)) ggX2_addFable_X2_needMoral
set_option maxRecDepth 20000 in
theorem ggX2_addFable_X2_needBeast : GoodIn wsX2_addFable wsX2_needBeast := goodIn_ca (goodIn_r _ [10, 6, 7] (by decide +kernel) (by decide +kernel)) (goodIn_sub (fun _ h => List.mem_cons_of_mem _ (List.mem_append_left _ (List.mem_append_right _ h))) (by decide +kernel))
set_option maxRecDepth 20000 in
theorem gX2_addFable_X2_needBeast : GoodIn wsX2_addFable (va_wsS RX2 34 yX2_needBeast wsX2_needBeast) := goodIn_app (goodIn_of _ (by decide +kernel)) ggX2_addFable_X2_needBeast
set_option maxRecDepth 20000 in
theorem ggX2_addFable_X2_needValley : GoodIn wsX2_addFable wsX2_needValley := goodIn_ca (goodIn_r _ [13, 6, 7] (by decide +kernel) (by decide +kernel)) (goodIn_sub (fun _ h => List.mem_cons_of_mem _ (List.mem_append_left _ (List.mem_append_right _ h))) (by decide +kernel))
set_option maxRecDepth 20000 in
theorem gX2_addFable_X2_needValley : GoodIn wsX2_addFable (va_wsS RX2 37 yX2_needValley wsX2_needValley) := goodIn_app (goodIn_of _ (by decide +kernel)) ggX2_addFable_X2_needValley
set_option maxRecDepth 20000 in
theorem ggX2_addFable_X2_needFreePage : GoodIn wsX2_addFable wsX2_needFreePage := goodIn_ca (goodIn_r _ [17, 18, 19, 1, 20, 33, 34, 35, 36, 37, 38, 39, 40, 41, 42, 43] (by decide +kernel) (by decide +kernel)) (goodIn_sub (fun _ h => List.mem_cons_of_mem _ (List.mem_append_right _ h)) (by decide +kernel))
set_option maxRecDepth 20000 in
theorem gX2_addFable_X2_needFreePage : GoodIn wsX2_addFable (wsV RX2 40 RX2 yX2_needFreePage wsX2_needFreePage) := goodIn_app (goodIn_of _ (by decide +kernel)) ggX2_addFable_X2_needFreePage
set_option maxRecDepth 20000 in
theorem ggX2_addFable_X0_write : GoodIn wsX2_addFable wsX0_write := goodIn_r _ [25, 26, 27, 28, 29, 30, 31, 32, 37, 38, 39, 40, 41, 42, 43] (by decide +kernel) (by decide +kernel)
set_option maxRecDepth 20000 in
theorem gX2_addFable_X0_write : GoodIn wsX2_addFable (wsV RX2 43 RX0 yX0_write wsX0_write) := goodIn_app (goodIn_of _ (by decide +kernel)) ggX2_addFable_X0_write
theorem dX2_addFable_0 : decode cX2_addFable 0 = .ok (.iload_n 1, 1) := by decide +kernel
theorem dX2_addFable_1 : decode cX2_addFable 1 = .ok (.invokestatic 30, 3) := by decide +kernel
theorem dX2_addFable_4 : decode cX2_addFable 4 = .ok (.iload_n 2, 1) := by decide +kernel
theorem dX2_addFable_5 : decode cX2_addFable 5 = .ok (.invokestatic 34, 3) := by decide +kernel
theorem dX2_addFable_8 : decode cX2_addFable 8 = .ok (.iload_n 3, 1) := by decide +kernel
theorem dX2_addFable_9 : decode cX2_addFable 9 = .ok (.invokestatic 37, 3) := by decide +kernel
theorem dX2_addFable_12 : decode cX2_addFable 12 = .ok (.aload_n 0, 1) := by decide +kernel
theorem dX2_addFable_13 : decode cX2_addFable 13 = .ok (.invokevirtual 40, 3) := by decide +kernel
theorem dX2_addFable_16 : decode cX2_addFable 16 = .ok (.aload_n 0, 1) := by decide +kernel
theorem dX2_addFable_17 : decode cX2_addFable 17 = .ok (.getfield 10, 3) := by decide +kernel
theorem dX2_addFable_20 : decode cX2_addFable 20 = .ok (.iload_n 1, 1) := by decide +kernel
theorem dX2_addFable_21 : decode cX2_addFable 21 = .ok (.iconst 1, 1) := by decide +kernel
theorem dX2_addFable_22 : decode cX2_addFable 22 = .ok (.iload_n 2, 1) := by decide +kernel
theorem dX2_addFable_23 : decode cX2_addFable 23 = .ok (.ishl, 1) := by decide +kernel
theorem dX2_addFable_24 : decode cX2_addFable 24 = .ok (.iload_n 3, 1) := by decide +kernel
theorem dX2_addFable_25 : decode cX2_addFable 25 = .ok (.iconst (-1), 1) := by decide +kernel
theorem dX2_addFable_26 : decode cX2_addFable 26 = .ok (.invokevirtual 43, 3) := by decide +kernel
theorem dX2_addFable_29 : decode cX2_addFable 29 = .ok (.ireturn, 1) := by decide +kernel
set_option maxRecDepth 20000 in
theorem ggX2_addBeast_X2_needFable : GoodIn wsX2_addBeast wsX2_needFable := goodIn_ca (goodIn_r _ [10, 11, 12, 3, 13, 30, 31, 32, 33, 34, 35, 36, 37, 38, 39, 40] (by decide +kernel) (by decide +kernel)) (goodIn_sub (fun _ h => List.mem_cons_of_mem _ (List.mem_append_right _ h)) (by decide +kernel))
set_option maxRecDepth 20000 in
theorem gX2_addBeast_X2_needFable : GoodIn wsX2_addBeast (wsV RX2 47 RX2 yX2_needFable wsX2_needFable) := goodIn_app (goodIn_of _ (by decide +kernel)) ggX2_addBeast_X2_needFable
set_option maxRecDepth 20000 in
theorem ggX2_addBeast_X2_needBeast : GoodIn wsX2_addBeast wsX2_needBeast := goodIn_ca (goodIn_r _ [16, 11, 12] (by decide +kernel) (by decide +kernel)) (goodIn_sub (fun _ h => List.mem_cons_of_mem _ (List.mem_append_right _ h)) (by decide +kernel))
set_option maxRecDepth 20000 in
theorem gX2_addBeast_X2_needBeast : GoodIn wsX2_addBeast (va_wsS RX2 34 yX2_needBeast wsX2_needBeast) := goodIn_app (goodIn_of _ (by decide +kernel)) ggX2_addBeast_X2_needBeast
set_option maxRecDepth 20000 in
theorem ggX2_addBeast_X2_has : GoodIn wsX2_addBeast wsX2_has := goodIn_r _ [19] (by decide +kernel) (by decide +kernel)
set_option maxRecDepth 20000 in
theorem gX2_addBeast_X2_has : GoodIn wsX2_addBeast (va_wsS RX2 54 yX2_has wsX2_has) := goodIn_app (goodIn_of _ (by decide +kernel)) ggX2_addBeast_X2_has
set_option maxRecDepth 20000 in
theorem ggX2_addBeast_X2_size : GoodIn wsX2_addBeast wsX2_size := goodIn_r _ [22, 23, 24, 25, 26, 27, 28, 29] (by decide +kernel) (by decide +kernel)
set_option maxRecDepth 20000 in
theorem gX2_addBeast_X2_size : GoodIn wsX2_addBeast (va_wsS RX2 70 yX2_size wsX2_size) := goodIn_app (goodIn_of _ (by decide +kernel)) ggX2_addBeast_X2_size
theorem dX2_addBeast_0 : decode cX2_addBeast 0 = .ok (.aload_n 0, 1) := by decide +kernel
theorem dX2_addBeast_1 : decode cX2_addBeast 1 = .ok (.iload_n 1, 1) := by decide +kernel
theorem dX2_addBeast_2 : decode cX2_addBeast 2 = .ok (.invokevirtual 47, 3) := by decide +kernel
theorem dX2_addBeast_5 : decode cX2_addBeast 5 = .ok (.iload_n 2, 1) := by decide +kernel
theorem dX2_addBeast_6 : decode cX2_addBeast 6 = .ok (.invokestatic 34, 3) := by decide +kernel
theorem dX2_addBeast_9 : decode cX2_addBeast 9 = .ok (.aload_n 0, 1) := by decide +kernel
theorem dX2_addBeast_10 : decode cX2_addBeast 10 = .ok (.getfield 10, 3) := by decide +kernel
theorem dX2_addBeast_13 : decode cX2_addBeast 13 = .ok (.getfield 50, 3) := by decide +kernel
theorem dX2_addBeast_16 : decode cX2_addBeast 16 = .ok (.iload_n 1, 1) := by decide +kernel
theorem dX2_addBeast_17 : decode cX2_addBeast 17 = .ok (.iaload, 1) := by decide +kernel
theorem dX2_addBeast_18 : decode cX2_addBeast 18 = .ok (.iload_n 2, 1) := by decide +kernel
theorem dX2_addBeast_19 : decode cX2_addBeast 19 = .ok (.invokestatic 54, 3) := by decide +kernel
theorem dX2_addBeast_22 : decode cX2_addBeast 22 = .ok (.ifCond .eq 13, 3) := by decide +kernel
theorem dX2_addBeast_25 : decode cX2_addBeast 25 = .ok (.new 58, 3) := by decide +kernel
theorem dX2_addBeast_28 : decode cX2_addBeast 28 = .ok (.dup, 1) := by decide +kernel
theorem dX2_addBeast_29 : decode cX2_addBeast 29 = .ok (.ldc 60, 2) := by decide +kernel
theorem dX2_addBeast_31 : decode cX2_addBeast 31 = .ok (.invokespecial 62, 3) := by decide +kernel
theorem dX2_addBeast_34 : decode cX2_addBeast 34 = .ok (.athrow, 1) := by decide +kernel
theorem dX2_addBeast_35 : decode cX2_addBeast 35 = .ok (.aload_n 0, 1) := by decide +kernel
theorem dX2_addBeast_36 : decode cX2_addBeast 36 = .ok (.getfield 10, 3) := by decide +kernel
theorem dX2_addBeast_39 : decode cX2_addBeast 39 = .ok (.getfield 65, 3) := by decide +kernel
theorem dX2_addBeast_42 : decode cX2_addBeast 42 = .ok (.iload_n 1, 1) := by decide +kernel
theorem dX2_addBeast_43 : decode cX2_addBeast 43 = .ok (.iaload, 1) := by decide +kernel
theorem dX2_addBeast_44 : decode cX2_addBeast 44 = .ok (.ifCond .eq 13, 3) := by decide +kernel
theorem dX2_addBeast_47 : decode cX2_addBeast 47 = .ok (.new 58, 3) := by decide +kernel
theorem dX2_addBeast_50 : decode cX2_addBeast 50 = .ok (.dup, 1) := by decide +kernel
theorem dX2_addBeast_51 : decode cX2_addBeast 51 = .ok (.ldc 68, 2) := by decide +kernel
theorem dX2_addBeast_53 : decode cX2_addBeast 53 = .ok (.invokespecial 62, 3) := by decide +kernel
theorem dX2_addBeast_56 : decode cX2_addBeast 56 = .ok (.athrow, 1) := by decide +kernel
theorem dX2_addBeast_57 : decode cX2_addBeast 57 = .ok (.aload_n 0, 1) := by decide +kernel
theorem dX2_addBeast_58 : decode cX2_addBeast 58 = .ok (.getfield 10, 3) := by decide +kernel
theorem dX2_addBeast_61 : decode cX2_addBeast 61 = .ok (.getfield 50, 3) := by decide +kernel
theorem dX2_addBeast_64 : decode cX2_addBeast 64 = .ok (.iload_n 1, 1) := by decide +kernel
theorem dX2_addBeast_65 : decode cX2_addBeast 65 = .ok (.dup2, 1) := by decide +kernel
theorem dX2_addBeast_66 : decode cX2_addBeast 66 = .ok (.iaload, 1) := by decide +kernel
theorem dX2_addBeast_67 : decode cX2_addBeast 67 = .ok (.iconst 1, 1) := by decide +kernel
theorem dX2_addBeast_68 : decode cX2_addBeast 68 = .ok (.iload_n 2, 1) := by decide +kernel
theorem dX2_addBeast_69 : decode cX2_addBeast 69 = .ok (.ishl, 1) := by decide +kernel
theorem dX2_addBeast_70 : decode cX2_addBeast 70 = .ok (.ior, 1) := by decide +kernel
theorem dX2_addBeast_71 : decode cX2_addBeast 71 = .ok (.iastore, 1) := by decide +kernel
theorem dX2_addBeast_72 : decode cX2_addBeast 72 = .ok (.aload_n 0, 1) := by decide +kernel
theorem dX2_addBeast_73 : decode cX2_addBeast 73 = .ok (.getfield 10, 3) := by decide +kernel
theorem dX2_addBeast_76 : decode cX2_addBeast 76 = .ok (.getfield 50, 3) := by decide +kernel
theorem dX2_addBeast_79 : decode cX2_addBeast 79 = .ok (.iload_n 1, 1) := by decide +kernel
theorem dX2_addBeast_80 : decode cX2_addBeast 80 = .ok (.iaload, 1) := by decide +kernel
theorem dX2_addBeast_81 : decode cX2_addBeast 81 = .ok (.invokestatic 70, 3) := by decide +kernel
theorem dX2_addBeast_84 : decode cX2_addBeast 84 = .ok (.ireturn, 1) := by decide +kernel
set_option maxRecDepth 20000 in
theorem ggX2_addVariant_X2_needFable : GoodIn wsX2_addVariant wsX2_needFable := goodIn_ca (goodIn_r _ [10, 11, 12, 3, 13, 42, 43, 44, 45, 46, 47, 48, 49, 50, 51, 52] (by decide +kernel) (by decide +kernel)) (goodIn_sub (fun _ h => List.mem_cons_of_mem _ (List.mem_append_right _ h)) (by decide +kernel))
set_option maxRecDepth 20000 in
theorem gX2_addVariant_X2_needFable : GoodIn wsX2_addVariant (wsV RX2 47 RX2 yX2_needFable wsX2_needFable) := goodIn_app (goodIn_of _ (by decide +kernel)) ggX2_addVariant_X2_needFable
set_option maxRecDepth 20000 in
theorem ggX2_addVariant_X2_needBeast : GoodIn wsX2_addVariant wsX2_needBeast := goodIn_ca (goodIn_r _ [16, 11, 12] (by decide +kernel) (by decide +kernel)) (goodIn_sub (fun _ h => List.mem_cons_of_mem _ (List.mem_append_right _ h)) (by decide +kernel))
set_option maxRecDepth 20000 in
theorem gX2_addVariant_X2_needBeast : GoodIn wsX2_addVariant (va_wsS RX2 34 yX2_needBeast wsX2_needBeast) := goodIn_app (goodIn_of _ (by decide +kernel)) ggX2_addVariant_X2_needBeast
set_option maxRecDepth 20000 in
theorem ggX2_addVariant_X2_needValley : GoodIn wsX2_addVariant wsX2_needValley := goodIn_ca (goodIn_r _ [19, 11, 12] (by decide +kernel) (by decide +kernel)) (goodIn_sub (fun _ h => List.mem_cons_of_mem _ (List.mem_append_right _ h)) (by decide +kernel))
set_option maxRecDepth 20000 in
theorem gX2_addVariant_X2_needValley : GoodIn wsX2_addVariant (va_wsS RX2 37 yX2_needValley wsX2_needValley) := goodIn_app (goodIn_of _ (by decide +kernel)) ggX2_addVariant_X2_needValley
set_option maxRecDepth 20000 in
theorem ggX2_addVariant_X2_needFreePage : GoodIn wsX2_addVariant wsX2_needFreePage := goodIn_ca (goodIn_r _ [23, 1, 2, 3, 13, 42, 43, 44, 45, 46, 47, 48, 49, 50, 51, 52] (by decide +kernel) (by decide +kernel)) (goodIn_sub (fun _ h => List.mem_cons_of_mem _ (List.mem_append_left _ (List.mem_append_right _ h))) (by decide +kernel))
set_option maxRecDepth 20000 in
theorem gX2_addVariant_X2_needFreePage : GoodIn wsX2_addVariant (wsV RX2 40 RX2 yX2_needFreePage wsX2_needFreePage) := goodIn_app (goodIn_of _ (by decide +kernel)) ggX2_addVariant_X2_needFreePage
set_option maxRecDepth 20000 in
theorem ggX2_addVariant_X2_has : GoodIn wsX2_addVariant wsX2_has := goodIn_r _ [26] (by decide +kernel) (by decide +kernel)
set_option maxRecDepth 20000 in
theorem gX2_addVariant_X2_has : GoodIn wsX2_addVariant (va_wsS RX2 54 yX2_has wsX2_has) := goodIn_app (goodIn_of _ (by decide +kernel)) ggX2_addVariant_X2_has
set_option maxRecDepth 20000 in
theorem ggX2_addVariant_X2_turned : GoodIn wsX2_addVariant wsX2_turned := goodIn_r _ [29] (by decide +kernel) (by decide +kernel)
set_option maxRecDepth 20000 in
theorem gX2_addVariant_X2_turned : GoodIn wsX2_addVariant (va_wsS RX2 81 yX2_turned wsX2_turned) := goodIn_app (goodIn_of _ (by decide +kernel)) ggX2_addVariant_X2_turned
set_option maxRecDepth 20000 in
theorem ggX2_addVariant_X0_write : GoodIn wsX2_addVariant wsX0_write := goodIn_r _ [34, 35, 36, 37, 38, 39, 40, 41, 46, 47, 48, 49, 50, 51, 52] (by decide +kernel) (by decide +kernel)
set_option maxRecDepth 20000 in
theorem gX2_addVariant_X0_write : GoodIn wsX2_addVariant (wsV RX2 43 RX0 yX0_write wsX0_write) := goodIn_app (goodIn_of _ (by decide +kernel)) ggX2_addVariant_X0_write
theorem dX2_addVariant_0 : decode cX2_addVariant 0 = .ok (.aload_n 0, 1) := by decide +kernel
theorem dX2_addVariant_1 : decode cX2_addVariant 1 = .ok (.iload_n 1, 1) := by decide +kernel
theorem dX2_addVariant_2 : decode cX2_addVariant 2 = .ok (.invokevirtual 47, 3) := by decide +kernel
theorem dX2_addVariant_5 : decode cX2_addVariant 5 = .ok (.iload_n 2, 1) := by decide +kernel
theorem dX2_addVariant_6 : decode cX2_addVariant 6 = .ok (.invokestatic 34, 3) := by decide +kernel
theorem dX2_addVariant_9 : decode cX2_addVariant 9 = .ok (.iload_n 3, 1) := by decide +kernel
theorem dX2_addVariant_10 : decode cX2_addVariant 10 = .ok (.invokestatic 34, 3) := by decide +kernel
theorem dX2_addVariant_13 : decode cX2_addVariant 13 = .ok (.iload 4, 2) := by decide +kernel
theorem dX2_addVariant_15 : decode cX2_addVariant 15 = .ok (.invokestatic 37, 3) := by decide +kernel
theorem dX2_addVariant_18 : decode cX2_addVariant 18 = .ok (.aload_n 0, 1) := by decide +kernel
theorem dX2_addVariant_19 : decode cX2_addVariant 19 = .ok (.invokevirtual 40, 3) := by decide +kernel
theorem dX2_addVariant_22 : decode cX2_addVariant 22 = .ok (.aload_n 0, 1) := by decide +kernel
theorem dX2_addVariant_23 : decode cX2_addVariant 23 = .ok (.getfield 10, 3) := by decide +kernel
theorem dX2_addVariant_26 : decode cX2_addVariant 26 = .ok (.getfield 50, 3) := by decide +kernel
theorem dX2_addVariant_29 : decode cX2_addVariant 29 = .ok (.iload_n 1, 1) := by decide +kernel
theorem dX2_addVariant_30 : decode cX2_addVariant 30 = .ok (.iaload, 1) := by decide +kernel
theorem dX2_addVariant_31 : decode cX2_addVariant 31 = .ok (.istore 5, 2) := by decide +kernel
theorem dX2_addVariant_33 : decode cX2_addVariant 33 = .ok (.iload 5, 2) := by decide +kernel
theorem dX2_addVariant_35 : decode cX2_addVariant 35 = .ok (.iload_n 2, 1) := by decide +kernel
theorem dX2_addVariant_36 : decode cX2_addVariant 36 = .ok (.invokestatic 54, 3) := by decide +kernel
theorem dX2_addVariant_39 : decode cX2_addVariant 39 = .ok (.ifCond .ne 13, 3) := by decide +kernel
theorem dX2_addVariant_42 : decode cX2_addVariant 42 = .ok (.new 58, 3) := by decide +kernel
theorem dX2_addVariant_45 : decode cX2_addVariant 45 = .ok (.dup, 1) := by decide +kernel
theorem dX2_addVariant_46 : decode cX2_addVariant 46 = .ok (.ldc 74, 2) := by decide +kernel
theorem dX2_addVariant_48 : decode cX2_addVariant 48 = .ok (.invokespecial 62, 3) := by decide +kernel
theorem dX2_addVariant_51 : decode cX2_addVariant 51 = .ok (.athrow, 1) := by decide +kernel
theorem dX2_addVariant_52 : decode cX2_addVariant 52 = .ok (.iload 5, 2) := by decide +kernel
theorem dX2_addVariant_54 : decode cX2_addVariant 54 = .ok (.iload_n 3, 1) := by decide +kernel
theorem dX2_addVariant_55 : decode cX2_addVariant 55 = .ok (.invokestatic 54, 3) := by decide +kernel
theorem dX2_addVariant_58 : decode cX2_addVariant 58 = .ok (.ifCond .eq 13, 3) := by decide +kernel
theorem dX2_addVariant_61 : decode cX2_addVariant 61 = .ok (.new 58, 3) := by decide +kernel
theorem dX2_addVariant_64 : decode cX2_addVariant 64 = .ok (.dup, 1) := by decide +kernel
theorem dX2_addVariant_65 : decode cX2_addVariant 65 = .ok (.ldc 76, 2) := by decide +kernel
theorem dX2_addVariant_67 : decode cX2_addVariant 67 = .ok (.invokespecial 62, 3) := by decide +kernel
theorem dX2_addVariant_70 : decode cX2_addVariant 70 = .ok (.athrow, 1) := by decide +kernel
theorem dX2_addVariant_71 : decode cX2_addVariant 71 = .ok (.aload_n 0, 1) := by decide +kernel
theorem dX2_addVariant_72 : decode cX2_addVariant 72 = .ok (.getfield 10, 3) := by decide +kernel
theorem dX2_addVariant_75 : decode cX2_addVariant 75 = .ok (.aload_n 0, 1) := by decide +kernel
theorem dX2_addVariant_76 : decode cX2_addVariant 76 = .ok (.getfield 10, 3) := by decide +kernel
theorem dX2_addVariant_79 : decode cX2_addVariant 79 = .ok (.getfield 78, 3) := by decide +kernel
theorem dX2_addVariant_82 : decode cX2_addVariant 82 = .ok (.iload_n 1, 1) := by decide +kernel
theorem dX2_addVariant_83 : decode cX2_addVariant 83 = .ok (.iaload, 1) := by decide +kernel
theorem dX2_addVariant_84 : decode cX2_addVariant 84 = .ok (.iload 5, 2) := by decide +kernel
theorem dX2_addVariant_86 : decode cX2_addVariant 86 = .ok (.iload_n 2, 1) := by decide +kernel
theorem dX2_addVariant_87 : decode cX2_addVariant 87 = .ok (.invokestatic 81, 3) := by decide +kernel
theorem dX2_addVariant_90 : decode cX2_addVariant 90 = .ok (.iload_n 3, 1) := by decide +kernel
theorem dX2_addVariant_91 : decode cX2_addVariant 91 = .ok (.invokestatic 81, 3) := by decide +kernel
theorem dX2_addVariant_94 : decode cX2_addVariant 94 = .ok (.iload 4, 2) := by decide +kernel
theorem dX2_addVariant_96 : decode cX2_addVariant 96 = .ok (.iload_n 1, 1) := by decide +kernel
theorem dX2_addVariant_97 : decode cX2_addVariant 97 = .ok (.invokevirtual 43, 3) := by decide +kernel
theorem dX2_addVariant_100 : decode cX2_addVariant 100 = .ok (.ireturn, 1) := by decide +kernel
set_option maxRecDepth 20000 in
theorem ggX2_turnPass_X2_needValley : GoodIn wsX2_turnPass wsX2_needValley := goodIn_ca (goodIn_r _ [8, 9, 10] (by decide +kernel) (by decide +kernel)) (goodIn_sub (fun _ h => List.mem_cons_of_mem _ (List.mem_append_right _ h)) (by decide +kernel))
set_option maxRecDepth 20000 in
theorem gX2_turnPass_X2_needValley : GoodIn wsX2_turnPass (va_wsS RX2 37 yX2_needValley wsX2_needValley) := goodIn_app (goodIn_of _ (by decide +kernel)) ggX2_turnPass_X2_needValley
set_option maxRecDepth 20000 in
theorem ggX2_turnPass_X1_turnWay : GoodIn wsX2_turnPass wsX1_turnWay := goodIn_r _ [15, 16, 17, 7, 18, 26, 27, 28, 29, 30, 31, 32] (by decide +kernel) (by decide +kernel)
set_option maxRecDepth 20000 in
theorem gX2_turnPass_X1_turnWay : GoodIn wsX2_turnPass (wsV RX2 90 RX1 yX1_turnWay wsX1_turnWay) := goodIn_app (goodIn_of _ (by decide +kernel)) ggX2_turnPass_X1_turnWay
set_option maxRecDepth 20000 in
theorem ggX2_turnPass_X2_has : GoodIn wsX2_turnPass wsX2_has := goodIn_r _ [21] (by decide +kernel) (by decide +kernel)
set_option maxRecDepth 20000 in
theorem gX2_turnPass_X2_has : GoodIn wsX2_turnPass (va_wsS RX2 54 yX2_has wsX2_has) := goodIn_app (goodIn_of _ (by decide +kernel)) ggX2_turnPass_X2_has
theorem dX2_turnPass_0 : decode cX2_turnPass 0 = .ok (.iload_n 1, 1) := by decide +kernel
theorem dX2_turnPass_1 : decode cX2_turnPass 1 = .ok (.invokestatic 37, 3) := by decide +kernel
theorem dX2_turnPass_4 : decode cX2_turnPass 4 = .ok (.iload_n 2, 1) := by decide +kernel
theorem dX2_turnPass_5 : decode cX2_turnPass 5 = .ok (.invokestatic 37, 3) := by decide +kernel
theorem dX2_turnPass_8 : decode cX2_turnPass 8 = .ok (.iload_n 1, 1) := by decide +kernel
theorem dX2_turnPass_9 : decode cX2_turnPass 9 = .ok (.iload_n 2, 1) := by decide +kernel
theorem dX2_turnPass_10 : decode cX2_turnPass 10 = .ok (.if_icmp .ne 13, 3) := by decide +kernel
theorem dX2_turnPass_13 : decode cX2_turnPass 13 = .ok (.new 85, 3) := by decide +kernel
theorem dX2_turnPass_16 : decode cX2_turnPass 16 = .ok (.dup, 1) := by decide +kernel
theorem dX2_turnPass_17 : decode cX2_turnPass 17 = .ok (.ldc 87, 2) := by decide +kernel
theorem dX2_turnPass_19 : decode cX2_turnPass 19 = .ok (.invokespecial 89, 3) := by decide +kernel
theorem dX2_turnPass_22 : decode cX2_turnPass 22 = .ok (.athrow, 1) := by decide +kernel
theorem dX2_turnPass_23 : decode cX2_turnPass 23 = .ok (.aload_n 0, 1) := by decide +kernel
theorem dX2_turnPass_24 : decode cX2_turnPass 24 = .ok (.getfield 19, 3) := by decide +kernel
theorem dX2_turnPass_27 : decode cX2_turnPass 27 = .ok (.iload_n 1, 1) := by decide +kernel
theorem dX2_turnPass_28 : decode cX2_turnPass 28 = .ok (.iload_n 2, 1) := by decide +kernel
theorem dX2_turnPass_29 : decode cX2_turnPass 29 = .ok (.invokevirtual 90, 3) := by decide +kernel
theorem dX2_turnPass_32 : decode cX2_turnPass 32 = .ok (.aload_n 0, 1) := by decide +kernel
theorem dX2_turnPass_33 : decode cX2_turnPass 33 = .ok (.getfield 19, 3) := by decide +kernel
theorem dX2_turnPass_36 : decode cX2_turnPass 36 = .ok (.getfield 94, 3) := by decide +kernel
theorem dX2_turnPass_39 : decode cX2_turnPass 39 = .ok (.iload_n 1, 1) := by decide +kernel
theorem dX2_turnPass_40 : decode cX2_turnPass 40 = .ok (.iaload, 1) := by decide +kernel
theorem dX2_turnPass_41 : decode cX2_turnPass 41 = .ok (.iload_n 2, 1) := by decide +kernel
theorem dX2_turnPass_42 : decode cX2_turnPass 42 = .ok (.invokestatic 54, 3) := by decide +kernel
theorem dX2_turnPass_45 : decode cX2_turnPass 45 = .ok (.ireturn, 1) := by decide +kernel
set_option maxRecDepth 20000 in
theorem ggX2_turnMoral_X2_needValley : GoodIn wsX2_turnMoral wsX2_needValley := goodIn_ca (goodIn_r _ [6, 7, 8] (by decide +kernel) (by decide +kernel)) (goodIn_sub (fun _ h => List.mem_cons_of_mem _ (List.mem_append_right _ h)) (by decide +kernel))
set_option maxRecDepth 20000 in
theorem gX2_turnMoral_X2_needValley : GoodIn wsX2_turnMoral (va_wsS RX2 37 yX2_needValley wsX2_needValley) := goodIn_app (goodIn_of _ (by decide +kernel)) ggX2_turnMoral_X2_needValley
set_option maxRecDepth 20000 in
theorem ggX2_turnMoral_X2_needMoral : GoodIn wsX2_turnMoral wsX2_needMoral := goodIn_ca (goodIn_r _ [11, 7, 8] (by decide +kernel) (by decide +kernel)) (goodIn_sub (fun _ h => List.mem_cons_of_mem _ (List.mem_append_right _ h)) (by decide +kernel))
set_option maxRecDepth 20000 in
theorem gX2_turnMoral_X2_needMoral : GoodIn wsX2_turnMoral (va_wsS RX2 30 yX2_needMoral wsX2_needMoral) := goodIn_app (goodIn_of _ (by decide +kernel)) ggX2_turnMoral_X2_needMoral
set_option maxRecDepth 20000 in
theorem ggX2_turnMoral_X2_turned : GoodIn wsX2_turnMoral wsX2_turned := goodIn_r _ [14] (by decide +kernel) (by decide +kernel)
set_option maxRecDepth 20000 in
theorem gX2_turnMoral_X2_turned : GoodIn wsX2_turnMoral (va_wsS RX2 81 yX2_turned wsX2_turned) := goodIn_app (goodIn_of _ (by decide +kernel)) ggX2_turnMoral_X2_turned
set_option maxRecDepth 20000 in
theorem ggX2_turnMoral_X2_has : GoodIn wsX2_turnMoral wsX2_has := goodIn_r _ [17] (by decide +kernel) (by decide +kernel)
set_option maxRecDepth 20000 in
theorem gX2_turnMoral_X2_has : GoodIn wsX2_turnMoral (va_wsS RX2 54 yX2_has wsX2_has) := goodIn_app (goodIn_of _ (by decide +kernel)) ggX2_turnMoral_X2_has
theorem dX2_turnMoral_0 : decode cX2_turnMoral 0 = .ok (.iload_n 1, 1) := by decide +kernel
theorem dX2_turnMoral_1 : decode cX2_turnMoral 1 = .ok (.invokestatic 37, 3) := by decide +kernel
theorem dX2_turnMoral_4 : decode cX2_turnMoral 4 = .ok (.iload_n 2, 1) := by decide +kernel
theorem dX2_turnMoral_5 : decode cX2_turnMoral 5 = .ok (.invokestatic 30, 3) := by decide +kernel
theorem dX2_turnMoral_8 : decode cX2_turnMoral 8 = .ok (.aload_n 0, 1) := by decide +kernel
theorem dX2_turnMoral_9 : decode cX2_turnMoral 9 = .ok (.getfield 19, 3) := by decide +kernel
theorem dX2_turnMoral_12 : decode cX2_turnMoral 12 = .ok (.getfield 97, 3) := by decide +kernel
theorem dX2_turnMoral_15 : decode cX2_turnMoral 15 = .ok (.iload_n 1, 1) := by decide +kernel
theorem dX2_turnMoral_16 : decode cX2_turnMoral 16 = .ok (.aload_n 0, 1) := by decide +kernel
theorem dX2_turnMoral_17 : decode cX2_turnMoral 17 = .ok (.getfield 19, 3) := by decide +kernel
theorem dX2_turnMoral_20 : decode cX2_turnMoral 20 = .ok (.getfield 97, 3) := by decide +kernel
theorem dX2_turnMoral_23 : decode cX2_turnMoral 23 = .ok (.iload_n 1, 1) := by decide +kernel
theorem dX2_turnMoral_24 : decode cX2_turnMoral 24 = .ok (.iaload, 1) := by decide +kernel
theorem dX2_turnMoral_25 : decode cX2_turnMoral 25 = .ok (.iload_n 2, 1) := by decide +kernel
theorem dX2_turnMoral_26 : decode cX2_turnMoral 26 = .ok (.invokestatic 81, 3) := by decide +kernel
theorem dX2_turnMoral_29 : decode cX2_turnMoral 29 = .ok (.iastore, 1) := by decide +kernel
theorem dX2_turnMoral_30 : decode cX2_turnMoral 30 = .ok (.aload_n 0, 1) := by decide +kernel
theorem dX2_turnMoral_31 : decode cX2_turnMoral 31 = .ok (.getfield 19, 3) := by decide +kernel
theorem dX2_turnMoral_34 : decode cX2_turnMoral 34 = .ok (.getfield 97, 3) := by decide +kernel
theorem dX2_turnMoral_37 : decode cX2_turnMoral 37 = .ok (.iload_n 1, 1) := by decide +kernel
theorem dX2_turnMoral_38 : decode cX2_turnMoral 38 = .ok (.iaload, 1) := by decide +kernel
theorem dX2_turnMoral_39 : decode cX2_turnMoral 39 = .ok (.iload_n 2, 1) := by decide +kernel
theorem dX2_turnMoral_40 : decode cX2_turnMoral 40 = .ok (.invokestatic 54, 3) := by decide +kernel
theorem dX2_turnMoral_43 : decode cX2_turnMoral 43 = .ok (.ireturn, 1) := by decide +kernel
set_option maxRecDepth 20000 in
theorem ggX2_turnBeast_X2_needValley : GoodIn wsX2_turnBeast wsX2_needValley := goodIn_ca (goodIn_r _ [6, 7, 8] (by decide +kernel) (by decide +kernel)) (goodIn_sub (fun _ h => List.mem_cons_of_mem _ (List.mem_append_right _ h)) (by decide +kernel))
set_option maxRecDepth 20000 in
theorem gX2_turnBeast_X2_needValley : GoodIn wsX2_turnBeast (va_wsS RX2 37 yX2_needValley wsX2_needValley) := goodIn_app (goodIn_of _ (by decide +kernel)) ggX2_turnBeast_X2_needValley
set_option maxRecDepth 20000 in
theorem ggX2_turnBeast_X2_needBeast : GoodIn wsX2_turnBeast wsX2_needBeast := goodIn_ca (goodIn_r _ [11, 7, 8] (by decide +kernel) (by decide +kernel)) (goodIn_sub (fun _ h => List.mem_cons_of_mem _ (List.mem_append_right _ h)) (by decide +kernel))
set_option maxRecDepth 20000 in
theorem gX2_turnBeast_X2_needBeast : GoodIn wsX2_turnBeast (va_wsS RX2 34 yX2_needBeast wsX2_needBeast) := goodIn_app (goodIn_of _ (by decide +kernel)) ggX2_turnBeast_X2_needBeast
set_option maxRecDepth 20000 in
theorem ggX2_turnBeast_X2_turned : GoodIn wsX2_turnBeast wsX2_turned := goodIn_r _ [14] (by decide +kernel) (by decide +kernel)
set_option maxRecDepth 20000 in
theorem gX2_turnBeast_X2_turned : GoodIn wsX2_turnBeast (va_wsS RX2 81 yX2_turned wsX2_turned) := goodIn_app (goodIn_of _ (by decide +kernel)) ggX2_turnBeast_X2_turned
set_option maxRecDepth 20000 in
theorem ggX2_turnBeast_X2_has : GoodIn wsX2_turnBeast wsX2_has := goodIn_r _ [17] (by decide +kernel) (by decide +kernel)
set_option maxRecDepth 20000 in
theorem gX2_turnBeast_X2_has : GoodIn wsX2_turnBeast (va_wsS RX2 54 yX2_has wsX2_has) := goodIn_app (goodIn_of _ (by decide +kernel)) ggX2_turnBeast_X2_has
theorem dX2_turnBeast_0 : decode cX2_turnBeast 0 = .ok (.iload_n 1, 1) := by decide +kernel
theorem dX2_turnBeast_1 : decode cX2_turnBeast 1 = .ok (.invokestatic 37, 3) := by decide +kernel
theorem dX2_turnBeast_4 : decode cX2_turnBeast 4 = .ok (.iload_n 2, 1) := by decide +kernel
theorem dX2_turnBeast_5 : decode cX2_turnBeast 5 = .ok (.invokestatic 34, 3) := by decide +kernel
theorem dX2_turnBeast_8 : decode cX2_turnBeast 8 = .ok (.aload_n 0, 1) := by decide +kernel
theorem dX2_turnBeast_9 : decode cX2_turnBeast 9 = .ok (.getfield 19, 3) := by decide +kernel
theorem dX2_turnBeast_12 : decode cX2_turnBeast 12 = .ok (.getfield 100, 3) := by decide +kernel
theorem dX2_turnBeast_15 : decode cX2_turnBeast 15 = .ok (.iload_n 1, 1) := by decide +kernel
theorem dX2_turnBeast_16 : decode cX2_turnBeast 16 = .ok (.aload_n 0, 1) := by decide +kernel
theorem dX2_turnBeast_17 : decode cX2_turnBeast 17 = .ok (.getfield 19, 3) := by decide +kernel
theorem dX2_turnBeast_20 : decode cX2_turnBeast 20 = .ok (.getfield 100, 3) := by decide +kernel
theorem dX2_turnBeast_23 : decode cX2_turnBeast 23 = .ok (.iload_n 1, 1) := by decide +kernel
theorem dX2_turnBeast_24 : decode cX2_turnBeast 24 = .ok (.iaload, 1) := by decide +kernel
theorem dX2_turnBeast_25 : decode cX2_turnBeast 25 = .ok (.iload_n 2, 1) := by decide +kernel
theorem dX2_turnBeast_26 : decode cX2_turnBeast 26 = .ok (.invokestatic 81, 3) := by decide +kernel
theorem dX2_turnBeast_29 : decode cX2_turnBeast 29 = .ok (.iastore, 1) := by decide +kernel
theorem dX2_turnBeast_30 : decode cX2_turnBeast 30 = .ok (.aload_n 0, 1) := by decide +kernel
theorem dX2_turnBeast_31 : decode cX2_turnBeast 31 = .ok (.getfield 19, 3) := by decide +kernel
theorem dX2_turnBeast_34 : decode cX2_turnBeast 34 = .ok (.getfield 100, 3) := by decide +kernel
theorem dX2_turnBeast_37 : decode cX2_turnBeast 37 = .ok (.iload_n 1, 1) := by decide +kernel
theorem dX2_turnBeast_38 : decode cX2_turnBeast 38 = .ok (.iaload, 1) := by decide +kernel
theorem dX2_turnBeast_39 : decode cX2_turnBeast 39 = .ok (.iload_n 2, 1) := by decide +kernel
theorem dX2_turnBeast_40 : decode cX2_turnBeast 40 = .ok (.invokestatic 54, 3) := by decide +kernel
theorem dX2_turnBeast_43 : decode cX2_turnBeast 43 = .ok (.ireturn, 1) := by decide +kernel
set_option maxRecDepth 20000 in
theorem ggX2_tell_X2_needFable : GoodIn wsX2_tell wsX2_needFable := goodIn_ca (goodIn_r _ [10, 11, 12, 5, 13, 43, 44, 45, 46, 54, 55, 56, 57, 58, 59, 60] (by decide +kernel) (by decide +kernel)) (goodIn_sub (fun _ h => List.mem_cons_of_mem _ (List.mem_append_right _ h)) (by decide +kernel))
set_option maxRecDepth 20000 in
theorem gX2_tell_X2_needFable : GoodIn wsX2_tell (wsV RX2 47 RX2 yX2_needFable wsX2_needFable) := goodIn_app (goodIn_of _ (by decide +kernel)) ggX2_tell_X2_needFable
set_option maxRecDepth 20000 in
theorem ggX2_tell_X2_needValley : GoodIn wsX2_tell wsX2_needValley := goodIn_ca (goodIn_r _ [16, 11, 12] (by decide +kernel) (by decide +kernel)) (goodIn_sub (fun _ h => List.mem_cons_of_mem _ (List.mem_append_right _ h)) (by decide +kernel))
set_option maxRecDepth 20000 in
theorem gX2_tell_X2_needValley : GoodIn wsX2_tell (va_wsS RX2 37 yX2_needValley wsX2_needValley) := goodIn_app (goodIn_of _ (by decide +kernel)) ggX2_tell_X2_needValley
set_option maxRecDepth 20000 in
theorem ggX2_tell_X2_has : GoodIn wsX2_tell wsX2_has := goodIn_r _ [19] (by decide +kernel) (by decide +kernel)
set_option maxRecDepth 20000 in
theorem gX2_tell_X2_has : GoodIn wsX2_tell (va_wsS RX2 54 yX2_has wsX2_has) := goodIn_app (goodIn_of _ (by decide +kernel)) ggX2_tell_X2_has
set_option maxRecDepth 20000 in
theorem ggX2_tell_X1_bans : GoodIn wsX2_tell wsX1_bans := goodIn_r _ [24, 25, 26, 27, 28, 18, 9, 19, 47, 48, 49, 50, 51, 52, 53, 54, 55, 56, 57, 58, 59, 60] (by decide +kernel) (by decide +kernel)
set_option maxRecDepth 20000 in
theorem gX2_tell_X1_bans : GoodIn wsX2_tell (wsV RX2 108 RX1 yX1_bans wsX1_bans) := goodIn_app (goodIn_of _ (by decide +kernel)) ggX2_tell_X1_bans
set_option maxRecDepth 20000 in
theorem ggX2_tell_X1_count : GoodIn wsX2_tell wsX1_count := goodIn_r _ [32, 33, 34, 9, 35, 36, 37, 38, 39, 40, 41, 42, 47, 48, 49, 50, 51, 52, 53] (by decide +kernel) (by decide +kernel)
set_option maxRecDepth 20000 in
theorem gX2_tell_X1_count : GoodIn wsX2_tell (wsV RX2 114 RX1 yX1_count wsX1_count) := goodIn_app (goodIn_of _ (by decide +kernel)) ggX2_tell_X1_count
theorem dX2_tell_0 : decode cX2_tell 0 = .ok (.aload_n 0, 1) := by decide +kernel
theorem dX2_tell_1 : decode cX2_tell 1 = .ok (.iload_n 1, 1) := by decide +kernel
theorem dX2_tell_2 : decode cX2_tell 2 = .ok (.invokevirtual 47, 3) := by decide +kernel
theorem dX2_tell_5 : decode cX2_tell 5 = .ok (.iload_n 2, 1) := by decide +kernel
theorem dX2_tell_6 : decode cX2_tell 6 = .ok (.invokestatic 37, 3) := by decide +kernel
theorem dX2_tell_9 : decode cX2_tell 9 = .ok (.aload_n 0, 1) := by decide +kernel
theorem dX2_tell_10 : decode cX2_tell 10 = .ok (.getfield 19, 3) := by decide +kernel
theorem dX2_tell_13 : decode cX2_tell 13 = .ok (.getfield 103, 3) := by decide +kernel
theorem dX2_tell_16 : decode cX2_tell 16 = .ok (.iload_n 2, 1) := by decide +kernel
theorem dX2_tell_17 : decode cX2_tell 17 = .ok (.iaload, 1) := by decide +kernel
theorem dX2_tell_18 : decode cX2_tell 18 = .ok (.iload_n 1, 1) := by decide +kernel
theorem dX2_tell_19 : decode cX2_tell 19 = .ok (.invokestatic 54, 3) := by decide +kernel
theorem dX2_tell_22 : decode cX2_tell 22 = .ok (.ifCond .eq 13, 3) := by decide +kernel
theorem dX2_tell_25 : decode cX2_tell 25 = .ok (.new 58, 3) := by decide +kernel
theorem dX2_tell_28 : decode cX2_tell 28 = .ok (.dup, 1) := by decide +kernel
theorem dX2_tell_29 : decode cX2_tell 29 = .ok (.ldc 106, 2) := by decide +kernel
theorem dX2_tell_31 : decode cX2_tell 31 = .ok (.invokespecial 62, 3) := by decide +kernel
theorem dX2_tell_34 : decode cX2_tell 34 = .ok (.athrow, 1) := by decide +kernel
theorem dX2_tell_35 : decode cX2_tell 35 = .ok (.aload_n 0, 1) := by decide +kernel
theorem dX2_tell_36 : decode cX2_tell 36 = .ok (.getfield 19, 3) := by decide +kernel
theorem dX2_tell_39 : decode cX2_tell 39 = .ok (.aload_n 0, 1) := by decide +kernel
theorem dX2_tell_40 : decode cX2_tell 40 = .ok (.getfield 10, 3) := by decide +kernel
theorem dX2_tell_43 : decode cX2_tell 43 = .ok (.iload_n 1, 1) := by decide +kernel
theorem dX2_tell_44 : decode cX2_tell 44 = .ok (.iload_n 2, 1) := by decide +kernel
theorem dX2_tell_45 : decode cX2_tell 45 = .ok (.invokevirtual 108, 3) := by decide +kernel
theorem dX2_tell_48 : decode cX2_tell 48 = .ok (.ifCond .eq 13, 3) := by decide +kernel
theorem dX2_tell_51 : decode cX2_tell 51 = .ok (.new 58, 3) := by decide +kernel
theorem dX2_tell_54 : decode cX2_tell 54 = .ok (.dup, 1) := by decide +kernel
theorem dX2_tell_55 : decode cX2_tell 55 = .ok (.ldc 112, 2) := by decide +kernel
theorem dX2_tell_57 : decode cX2_tell 57 = .ok (.invokespecial 62, 3) := by decide +kernel
theorem dX2_tell_60 : decode cX2_tell 60 = .ok (.athrow, 1) := by decide +kernel
theorem dX2_tell_61 : decode cX2_tell 61 = .ok (.aload_n 0, 1) := by decide +kernel
theorem dX2_tell_62 : decode cX2_tell 62 = .ok (.getfield 19, 3) := by decide +kernel
theorem dX2_tell_65 : decode cX2_tell 65 = .ok (.getfield 103, 3) := by decide +kernel
theorem dX2_tell_68 : decode cX2_tell 68 = .ok (.iload_n 2, 1) := by decide +kernel
theorem dX2_tell_69 : decode cX2_tell 69 = .ok (.dup2, 1) := by decide +kernel
theorem dX2_tell_70 : decode cX2_tell 70 = .ok (.iaload, 1) := by decide +kernel
theorem dX2_tell_71 : decode cX2_tell 71 = .ok (.iconst 1, 1) := by decide +kernel
theorem dX2_tell_72 : decode cX2_tell 72 = .ok (.iload_n 1, 1) := by decide +kernel
theorem dX2_tell_73 : decode cX2_tell 73 = .ok (.ishl, 1) := by decide +kernel
theorem dX2_tell_74 : decode cX2_tell 74 = .ok (.ior, 1) := by decide +kernel
theorem dX2_tell_75 : decode cX2_tell 75 = .ok (.iastore, 1) := by decide +kernel
theorem dX2_tell_76 : decode cX2_tell 76 = .ok (.aload_n 0, 1) := by decide +kernel
theorem dX2_tell_77 : decode cX2_tell 77 = .ok (.getfield 19, 3) := by decide +kernel
theorem dX2_tell_80 : decode cX2_tell 80 = .ok (.iconst 1, 1) := by decide +kernel
theorem dX2_tell_81 : decode cX2_tell 81 = .ok (.iload_n 1, 1) := by decide +kernel
theorem dX2_tell_82 : decode cX2_tell 82 = .ok (.ishl, 1) := by decide +kernel
theorem dX2_tell_83 : decode cX2_tell 83 = .ok (.invokevirtual 114, 3) := by decide +kernel
theorem dX2_tell_86 : decode cX2_tell 86 = .ok (.ireturn, 1) := by decide +kernel
set_option maxRecDepth 20000 in
theorem ggX2_forget_X2_needFable : GoodIn wsX2_forget wsX2_needFable := goodIn_ca (goodIn_r _ [9, 10, 11, 12, 13, 38, 39, 40, 41, 49, 50, 51, 52, 53, 54, 55] (by decide +kernel) (by decide +kernel)) (goodIn_sub (fun _ h => List.mem_cons_of_mem _ (List.mem_append_right _ h)) (by decide +kernel))
set_option maxRecDepth 20000 in
theorem gX2_forget_X2_needFable : GoodIn wsX2_forget (wsV RX2 47 RX2 yX2_needFable wsX2_needFable) := goodIn_app (goodIn_of _ (by decide +kernel)) ggX2_forget_X2_needFable
set_option maxRecDepth 20000 in
theorem ggX2_forget_X2_needValley : GoodIn wsX2_forget wsX2_needValley := goodIn_ca (goodIn_r _ [16, 10, 11] (by decide +kernel) (by decide +kernel)) (goodIn_sub (fun _ h => List.mem_cons_of_mem _ (List.mem_append_right _ h)) (by decide +kernel))
set_option maxRecDepth 20000 in
theorem gX2_forget_X2_needValley : GoodIn wsX2_forget (va_wsS RX2 37 yX2_needValley wsX2_needValley) := goodIn_app (goodIn_of _ (by decide +kernel)) ggX2_forget_X2_needValley
set_option maxRecDepth 20000 in
theorem ggX2_forget_X2_has : GoodIn wsX2_forget wsX2_has := goodIn_r _ [19] (by decide +kernel) (by decide +kernel)
set_option maxRecDepth 20000 in
theorem gX2_forget_X2_has : GoodIn wsX2_forget (va_wsS RX2 54 yX2_has wsX2_has) := goodIn_app (goodIn_of _ (by decide +kernel)) ggX2_forget_X2_has
set_option maxRecDepth 20000 in
theorem ggX2_forget_X2_turned : GoodIn wsX2_forget wsX2_turned := goodIn_r _ [22] (by decide +kernel) (by decide +kernel)
set_option maxRecDepth 20000 in
theorem gX2_forget_X2_turned : GoodIn wsX2_forget (va_wsS RX2 81 yX2_turned wsX2_turned) := goodIn_app (goodIn_of _ (by decide +kernel)) ggX2_forget_X2_turned
set_option maxRecDepth 20000 in
theorem ggX2_forget_X1_count : GoodIn wsX2_forget wsX1_count := goodIn_r _ [27, 28, 29, 8, 30, 31, 32, 33, 34, 35, 36, 37, 42, 43, 44, 45, 46, 47, 48] (by decide +kernel) (by decide +kernel)
set_option maxRecDepth 20000 in
theorem gX2_forget_X1_count : GoodIn wsX2_forget (wsV RX2 114 RX1 yX1_count wsX1_count) := goodIn_app (goodIn_of _ (by decide +kernel)) ggX2_forget_X1_count
theorem dX2_forget_0 : decode cX2_forget 0 = .ok (.aload_n 0, 1) := by decide +kernel
theorem dX2_forget_1 : decode cX2_forget 1 = .ok (.iload_n 1, 1) := by decide +kernel
theorem dX2_forget_2 : decode cX2_forget 2 = .ok (.invokevirtual 47, 3) := by decide +kernel
theorem dX2_forget_5 : decode cX2_forget 5 = .ok (.iload_n 2, 1) := by decide +kernel
theorem dX2_forget_6 : decode cX2_forget 6 = .ok (.invokestatic 37, 3) := by decide +kernel
theorem dX2_forget_9 : decode cX2_forget 9 = .ok (.aload_n 0, 1) := by decide +kernel
theorem dX2_forget_10 : decode cX2_forget 10 = .ok (.getfield 19, 3) := by decide +kernel
theorem dX2_forget_13 : decode cX2_forget 13 = .ok (.getfield 103, 3) := by decide +kernel
theorem dX2_forget_16 : decode cX2_forget 16 = .ok (.iload_n 2, 1) := by decide +kernel
theorem dX2_forget_17 : decode cX2_forget 17 = .ok (.iaload, 1) := by decide +kernel
theorem dX2_forget_18 : decode cX2_forget 18 = .ok (.iload_n 1, 1) := by decide +kernel
theorem dX2_forget_19 : decode cX2_forget 19 = .ok (.invokestatic 54, 3) := by decide +kernel
theorem dX2_forget_22 : decode cX2_forget 22 = .ok (.ifCond .ne 13, 3) := by decide +kernel
theorem dX2_forget_25 : decode cX2_forget 25 = .ok (.new 58, 3) := by decide +kernel
theorem dX2_forget_28 : decode cX2_forget 28 = .ok (.dup, 1) := by decide +kernel
theorem dX2_forget_29 : decode cX2_forget 29 = .ok (.ldc 117, 2) := by decide +kernel
theorem dX2_forget_31 : decode cX2_forget 31 = .ok (.invokespecial 62, 3) := by decide +kernel
theorem dX2_forget_34 : decode cX2_forget 34 = .ok (.athrow, 1) := by decide +kernel
theorem dX2_forget_35 : decode cX2_forget 35 = .ok (.aload_n 0, 1) := by decide +kernel
theorem dX2_forget_36 : decode cX2_forget 36 = .ok (.getfield 19, 3) := by decide +kernel
theorem dX2_forget_39 : decode cX2_forget 39 = .ok (.getfield 103, 3) := by decide +kernel
theorem dX2_forget_42 : decode cX2_forget 42 = .ok (.iload_n 2, 1) := by decide +kernel
theorem dX2_forget_43 : decode cX2_forget 43 = .ok (.aload_n 0, 1) := by decide +kernel
theorem dX2_forget_44 : decode cX2_forget 44 = .ok (.getfield 19, 3) := by decide +kernel
theorem dX2_forget_47 : decode cX2_forget 47 = .ok (.getfield 103, 3) := by decide +kernel
theorem dX2_forget_50 : decode cX2_forget 50 = .ok (.iload_n 2, 1) := by decide +kernel
theorem dX2_forget_51 : decode cX2_forget 51 = .ok (.iaload, 1) := by decide +kernel
theorem dX2_forget_52 : decode cX2_forget 52 = .ok (.iload_n 1, 1) := by decide +kernel
theorem dX2_forget_53 : decode cX2_forget 53 = .ok (.invokestatic 81, 3) := by decide +kernel
theorem dX2_forget_56 : decode cX2_forget 56 = .ok (.iastore, 1) := by decide +kernel
theorem dX2_forget_57 : decode cX2_forget 57 = .ok (.aload_n 0, 1) := by decide +kernel
theorem dX2_forget_58 : decode cX2_forget 58 = .ok (.getfield 19, 3) := by decide +kernel
theorem dX2_forget_61 : decode cX2_forget 61 = .ok (.iconst 1, 1) := by decide +kernel
theorem dX2_forget_62 : decode cX2_forget 62 = .ok (.iload_n 1, 1) := by decide +kernel
theorem dX2_forget_63 : decode cX2_forget 63 = .ok (.ishl, 1) := by decide +kernel
theorem dX2_forget_64 : decode cX2_forget 64 = .ok (.invokevirtual 114, 3) := by decide +kernel
theorem dX2_forget_67 : decode cX2_forget 67 = .ok (.ireturn, 1) := by decide +kernel
set_option maxRecDepth 20000 in
theorem ggX2_passSeasons_X2_needSeasons : GoodIn wsX2_passSeasons wsX2_needSeasons := goodIn_ca (goodIn_r _ [7, 8, 9] (by decide +kernel) (by decide +kernel)) (goodIn_sub (fun _ h => List.mem_cons_of_mem _ (List.mem_append_right _ h)) (by decide +kernel))
set_option maxRecDepth 20000 in
theorem gX2_passSeasons_X2_needSeasons : GoodIn wsX2_passSeasons (va_wsS RX2 119 yX2_needSeasons wsX2_needSeasons) := goodIn_app (goodIn_of _ (by decide +kernel)) ggX2_passSeasons_X2_needSeasons
set_option maxRecDepth 20000 in
theorem ggX2_passSeasons_X1_live : GoodIn wsX2_passSeasons wsX1_live := goodIn_r _ [14, 15, 16, 17, 18, 13, 19, 20, 21, 22, 23, 24, 25, 26, 27, 28, 29, 6, 30, 31, 32, 33, 34, 35, 36, 37, 38, 39, 40, 41, 42, 43, 44, 45, 46, 47, 48, 49, 50, 51, 52, 53, 54, 55, 56, 57, 58, 59, 60, 61, 62, 77, 78, 79, 80, 81, 82, 83, 84, 85, 86, 87, 88, 89, 90] (by decide +kernel) (by decide +kernel)
set_option maxRecDepth 20000 in
theorem gX2_passSeasons_X1_live : GoodIn wsX2_passSeasons (wsV RX2 122 RX1 yX1_live wsX1_live) := goodIn_app (goodIn_of _ (by decide +kernel)) ggX2_passSeasons_X1_live
set_option maxRecDepth 20000 in
theorem ggX2_passSeasons_X0_all : GoodIn wsX2_passSeasons wsX0_all := goodIn_r _ [67, 68, 84, 85, 86, 87, 88, 89, 90] (by decide +kernel) (by decide +kernel)
set_option maxRecDepth 20000 in
theorem gX2_passSeasons_X0_all : GoodIn wsX2_passSeasons (wsV RX2 126 RX0 yX0_all wsX0_all) := goodIn_app (goodIn_of _ (by decide +kernel)) ggX2_passSeasons_X0_all
set_option maxRecDepth 20000 in
theorem ggX2_passSeasons_X1_count : GoodIn wsX2_passSeasons wsX1_count := goodIn_r _ [72, 36, 38, 6, 39, 40, 41, 42, 43, 44, 45, 46, 77, 78, 79, 80, 81, 82, 83] (by decide +kernel) (by decide +kernel)
set_option maxRecDepth 20000 in
theorem gX2_passSeasons_X1_count : GoodIn wsX2_passSeasons (wsV RX2 114 RX1 yX1_count wsX1_count) := goodIn_app (goodIn_of _ (by decide +kernel)) ggX2_passSeasons_X1_count
theorem dX2_passSeasons_0 : decode cX2_passSeasons 0 = .ok (.iload_n 1, 1) := by decide +kernel
theorem dX2_passSeasons_1 : decode cX2_passSeasons 1 = .ok (.bipush 40, 2) := by decide +kernel
theorem dX2_passSeasons_3 : decode cX2_passSeasons 3 = .ok (.invokestatic 119, 3) := by decide +kernel
theorem dX2_passSeasons_6 : decode cX2_passSeasons 6 = .ok (.aload_n 0, 1) := by decide +kernel
theorem dX2_passSeasons_7 : decode cX2_passSeasons 7 = .ok (.getfield 19, 3) := by decide +kernel
theorem dX2_passSeasons_10 : decode cX2_passSeasons 10 = .ok (.aload_n 0, 1) := by decide +kernel
theorem dX2_passSeasons_11 : decode cX2_passSeasons 11 = .ok (.getfield 10, 3) := by decide +kernel
theorem dX2_passSeasons_14 : decode cX2_passSeasons 14 = .ok (.iload_n 1, 1) := by decide +kernel
theorem dX2_passSeasons_15 : decode cX2_passSeasons 15 = .ok (.invokevirtual 122, 3) := by decide +kernel
theorem dX2_passSeasons_18 : decode cX2_passSeasons 18 = .ok (.aload_n 0, 1) := by decide +kernel
theorem dX2_passSeasons_19 : decode cX2_passSeasons 19 = .ok (.dup, 1) := by decide +kernel
theorem dX2_passSeasons_20 : decode cX2_passSeasons 20 = .ok (.getfield 26, 3) := by decide +kernel
theorem dX2_passSeasons_23 : decode cX2_passSeasons 23 = .ok (.iload_n 1, 1) := by decide +kernel
theorem dX2_passSeasons_24 : decode cX2_passSeasons 24 = .ok (.iadd, 1) := by decide +kernel
theorem dX2_passSeasons_25 : decode cX2_passSeasons 25 = .ok (.putfield 26, 3) := by decide +kernel
theorem dX2_passSeasons_28 : decode cX2_passSeasons 28 = .ok (.aload_n 0, 1) := by decide +kernel
theorem dX2_passSeasons_29 : decode cX2_passSeasons 29 = .ok (.getfield 19, 3) := by decide +kernel
theorem dX2_passSeasons_32 : decode cX2_passSeasons 32 = .ok (.aload_n 0, 1) := by decide +kernel
theorem dX2_passSeasons_33 : decode cX2_passSeasons 33 = .ok (.getfield 10, 3) := by decide +kernel
theorem dX2_passSeasons_36 : decode cX2_passSeasons 36 = .ok (.invokevirtual 126, 3) := by decide +kernel
theorem dX2_passSeasons_39 : decode cX2_passSeasons 39 = .ok (.invokevirtual 114, 3) := by decide +kernel
theorem dX2_passSeasons_42 : decode cX2_passSeasons 42 = .ok (.ireturn, 1) := by decide +kernel
set_option maxRecDepth 20000 in
theorem ggX2_moralOf_X2_needFable : GoodIn wsX2_moralOf wsX2_needFable := goodIn_ca (goodIn_r _ [7, 8, 9, 1, 10, 11, 12, 13, 14, 15, 16, 17, 18, 19, 20, 21] (by decide +kernel) (by decide +kernel)) (goodIn_sub (fun _ h => List.mem_cons_of_mem _ (List.mem_append_right _ h)) (by decide +kernel))
set_option maxRecDepth 20000 in
theorem gX2_moralOf_X2_needFable : GoodIn wsX2_moralOf (wsV RX2 47 RX2 yX2_needFable wsX2_needFable) := goodIn_app (goodIn_of _ (by decide +kernel)) ggX2_moralOf_X2_needFable
theorem dX2_moralOf_0 : decode cX2_moralOf 0 = .ok (.aload_n 0, 1) := by decide +kernel
theorem dX2_moralOf_1 : decode cX2_moralOf 1 = .ok (.iload_n 1, 1) := by decide +kernel
theorem dX2_moralOf_2 : decode cX2_moralOf 2 = .ok (.invokevirtual 47, 3) := by decide +kernel
theorem dX2_moralOf_5 : decode cX2_moralOf 5 = .ok (.aload_n 0, 1) := by decide +kernel
theorem dX2_moralOf_6 : decode cX2_moralOf 6 = .ok (.getfield 10, 3) := by decide +kernel
theorem dX2_moralOf_9 : decode cX2_moralOf 9 = .ok (.getfield 78, 3) := by decide +kernel
theorem dX2_moralOf_12 : decode cX2_moralOf 12 = .ok (.iload_n 1, 1) := by decide +kernel
theorem dX2_moralOf_13 : decode cX2_moralOf 13 = .ok (.iaload, 1) := by decide +kernel
theorem dX2_moralOf_14 : decode cX2_moralOf 14 = .ok (.ireturn, 1) := by decide +kernel
set_option maxRecDepth 20000 in
theorem ggX2_beastsOf_X2_needFable : GoodIn wsX2_beastsOf wsX2_needFable := goodIn_ca (goodIn_r _ [7, 8, 9, 1, 10, 21, 22, 23, 24, 25, 26, 27, 28, 29, 30, 31] (by decide +kernel) (by decide +kernel)) (goodIn_sub (fun _ h => List.mem_cons_of_mem _ (List.mem_append_right _ h)) (by decide +kernel))
set_option maxRecDepth 20000 in
theorem gX2_beastsOf_X2_needFable : GoodIn wsX2_beastsOf (wsV RX2 47 RX2 yX2_needFable wsX2_needFable) := goodIn_app (goodIn_of _ (by decide +kernel)) ggX2_beastsOf_X2_needFable
set_option maxRecDepth 20000 in
theorem ggX2_beastsOf_X2_size : GoodIn wsX2_beastsOf wsX2_size := goodIn_r _ [13, 14, 15, 16, 17, 18, 19, 20] (by decide +kernel) (by decide +kernel)
set_option maxRecDepth 20000 in
theorem gX2_beastsOf_X2_size : GoodIn wsX2_beastsOf (va_wsS RX2 70 yX2_size wsX2_size) := goodIn_app (goodIn_of _ (by decide +kernel)) ggX2_beastsOf_X2_size
theorem dX2_beastsOf_0 : decode cX2_beastsOf 0 = .ok (.aload_n 0, 1) := by decide +kernel
theorem dX2_beastsOf_1 : decode cX2_beastsOf 1 = .ok (.iload_n 1, 1) := by decide +kernel
theorem dX2_beastsOf_2 : decode cX2_beastsOf 2 = .ok (.invokevirtual 47, 3) := by decide +kernel
theorem dX2_beastsOf_5 : decode cX2_beastsOf 5 = .ok (.aload_n 0, 1) := by decide +kernel
theorem dX2_beastsOf_6 : decode cX2_beastsOf 6 = .ok (.getfield 10, 3) := by decide +kernel
theorem dX2_beastsOf_9 : decode cX2_beastsOf 9 = .ok (.getfield 50, 3) := by decide +kernel
theorem dX2_beastsOf_12 : decode cX2_beastsOf 12 = .ok (.iload_n 1, 1) := by decide +kernel
theorem dX2_beastsOf_13 : decode cX2_beastsOf 13 = .ok (.iaload, 1) := by decide +kernel
theorem dX2_beastsOf_14 : decode cX2_beastsOf 14 = .ok (.invokestatic 70, 3) := by decide +kernel
theorem dX2_beastsOf_17 : decode cX2_beastsOf 17 = .ok (.ireturn, 1) := by decide +kernel
set_option maxRecDepth 20000 in
theorem ggX2_hasBeast_X2_needFable : GoodIn wsX2_hasBeast wsX2_needFable := goodIn_ca (goodIn_r _ [7, 8, 9, 1, 10, 17, 18, 19, 20, 21, 22, 23, 24, 25, 26, 27] (by decide +kernel) (by decide +kernel)) (goodIn_sub (fun _ h => List.mem_cons_of_mem _ (List.mem_append_right _ h)) (by decide +kernel))
set_option maxRecDepth 20000 in
theorem gX2_hasBeast_X2_needFable : GoodIn wsX2_hasBeast (wsV RX2 47 RX2 yX2_needFable wsX2_needFable) := goodIn_app (goodIn_of _ (by decide +kernel)) ggX2_hasBeast_X2_needFable
set_option maxRecDepth 20000 in
theorem ggX2_hasBeast_X2_needBeast : GoodIn wsX2_hasBeast wsX2_needBeast := goodIn_ca (goodIn_r _ [13, 8, 9] (by decide +kernel) (by decide +kernel)) (goodIn_sub (fun _ h => List.mem_cons_of_mem _ (List.mem_append_right _ h)) (by decide +kernel))
set_option maxRecDepth 20000 in
theorem gX2_hasBeast_X2_needBeast : GoodIn wsX2_hasBeast (va_wsS RX2 34 yX2_needBeast wsX2_needBeast) := goodIn_app (goodIn_of _ (by decide +kernel)) ggX2_hasBeast_X2_needBeast
set_option maxRecDepth 20000 in
theorem ggX2_hasBeast_X2_has : GoodIn wsX2_hasBeast wsX2_has := goodIn_r _ [16] (by decide +kernel) (by decide +kernel)
set_option maxRecDepth 20000 in
theorem gX2_hasBeast_X2_has : GoodIn wsX2_hasBeast (va_wsS RX2 54 yX2_has wsX2_has) := goodIn_app (goodIn_of _ (by decide +kernel)) ggX2_hasBeast_X2_has
theorem dX2_hasBeast_0 : decode cX2_hasBeast 0 = .ok (.aload_n 0, 1) := by decide +kernel
theorem dX2_hasBeast_1 : decode cX2_hasBeast 1 = .ok (.iload_n 1, 1) := by decide +kernel
theorem dX2_hasBeast_2 : decode cX2_hasBeast 2 = .ok (.invokevirtual 47, 3) := by decide +kernel
theorem dX2_hasBeast_5 : decode cX2_hasBeast 5 = .ok (.iload_n 2, 1) := by decide +kernel
theorem dX2_hasBeast_6 : decode cX2_hasBeast 6 = .ok (.invokestatic 34, 3) := by decide +kernel
theorem dX2_hasBeast_9 : decode cX2_hasBeast 9 = .ok (.aload_n 0, 1) := by decide +kernel
theorem dX2_hasBeast_10 : decode cX2_hasBeast 10 = .ok (.getfield 10, 3) := by decide +kernel
theorem dX2_hasBeast_13 : decode cX2_hasBeast 13 = .ok (.getfield 50, 3) := by decide +kernel
theorem dX2_hasBeast_16 : decode cX2_hasBeast 16 = .ok (.iload_n 1, 1) := by decide +kernel
theorem dX2_hasBeast_17 : decode cX2_hasBeast 17 = .ok (.iaload, 1) := by decide +kernel
theorem dX2_hasBeast_18 : decode cX2_hasBeast 18 = .ok (.iload_n 2, 1) := by decide +kernel
theorem dX2_hasBeast_19 : decode cX2_hasBeast 19 = .ok (.invokestatic 54, 3) := by decide +kernel
theorem dX2_hasBeast_22 : decode cX2_hasBeast 22 = .ok (.ireturn, 1) := by decide +kernel
set_option maxRecDepth 20000 in
theorem ggX2_homeOf_X2_needFable : GoodIn wsX2_homeOf wsX2_needFable := goodIn_ca (goodIn_r _ [7, 8, 9, 1, 10, 11, 12, 13, 14, 15, 16, 17, 18, 19, 20, 21] (by decide +kernel) (by decide +kernel)) (goodIn_sub (fun _ h => List.mem_cons_of_mem _ (List.mem_append_right _ h)) (by decide +kernel))
set_option maxRecDepth 20000 in
theorem gX2_homeOf_X2_needFable : GoodIn wsX2_homeOf (wsV RX2 47 RX2 yX2_needFable wsX2_needFable) := goodIn_app (goodIn_of _ (by decide +kernel)) ggX2_homeOf_X2_needFable
theorem dX2_homeOf_0 : decode cX2_homeOf 0 = .ok (.aload_n 0, 1) := by decide +kernel
theorem dX2_homeOf_1 : decode cX2_homeOf 1 = .ok (.iload_n 1, 1) := by decide +kernel
theorem dX2_homeOf_2 : decode cX2_homeOf 2 = .ok (.invokevirtual 47, 3) := by decide +kernel
theorem dX2_homeOf_5 : decode cX2_homeOf 5 = .ok (.aload_n 0, 1) := by decide +kernel
theorem dX2_homeOf_6 : decode cX2_homeOf 6 = .ok (.getfield 10, 3) := by decide +kernel
theorem dX2_homeOf_9 : decode cX2_homeOf 9 = .ok (.getfield 130, 3) := by decide +kernel
theorem dX2_homeOf_12 : decode cX2_homeOf 12 = .ok (.iload_n 1, 1) := by decide +kernel
theorem dX2_homeOf_13 : decode cX2_homeOf 13 = .ok (.iaload, 1) := by decide +kernel
theorem dX2_homeOf_14 : decode cX2_homeOf 14 = .ok (.ireturn, 1) := by decide +kernel
set_option maxRecDepth 20000 in
theorem ggX2_parentOf_X2_needFable : GoodIn wsX2_parentOf wsX2_needFable := goodIn_ca (goodIn_r _ [7, 8, 9, 1, 10, 11, 12, 13, 14, 15, 16, 17, 18, 19, 20, 21] (by decide +kernel) (by decide +kernel)) (goodIn_sub (fun _ h => List.mem_cons_of_mem _ (List.mem_append_right _ h)) (by decide +kernel))
set_option maxRecDepth 20000 in
theorem gX2_parentOf_X2_needFable : GoodIn wsX2_parentOf (wsV RX2 47 RX2 yX2_needFable wsX2_needFable) := goodIn_app (goodIn_of _ (by decide +kernel)) ggX2_parentOf_X2_needFable
theorem dX2_parentOf_0 : decode cX2_parentOf 0 = .ok (.aload_n 0, 1) := by decide +kernel
theorem dX2_parentOf_1 : decode cX2_parentOf 1 = .ok (.iload_n 1, 1) := by decide +kernel
theorem dX2_parentOf_2 : decode cX2_parentOf 2 = .ok (.invokevirtual 47, 3) := by decide +kernel
theorem dX2_parentOf_5 : decode cX2_parentOf 5 = .ok (.aload_n 0, 1) := by decide +kernel
theorem dX2_parentOf_6 : decode cX2_parentOf 6 = .ok (.getfield 10, 3) := by decide +kernel
theorem dX2_parentOf_9 : decode cX2_parentOf 9 = .ok (.getfield 133, 3) := by decide +kernel
theorem dX2_parentOf_12 : decode cX2_parentOf 12 = .ok (.iload_n 1, 1) := by decide +kernel
theorem dX2_parentOf_13 : decode cX2_parentOf 13 = .ok (.iaload, 1) := by decide +kernel
theorem dX2_parentOf_14 : decode cX2_parentOf 14 = .ok (.ireturn, 1) := by decide +kernel
set_option maxRecDepth 20000 in
theorem ggX2_variantsOf_X2_needFable : GoodIn wsX2_variantsOf wsX2_needFable := goodIn_ca (goodIn_r _ [7, 8, 9, 1, 10, 21, 22, 23, 24, 25, 26, 27, 28, 29, 30, 31] (by decide +kernel) (by decide +kernel)) (goodIn_sub (fun _ h => List.mem_cons_of_mem _ (List.mem_append_right _ h)) (by decide +kernel))
set_option maxRecDepth 20000 in
theorem gX2_variantsOf_X2_needFable : GoodIn wsX2_variantsOf (wsV RX2 47 RX2 yX2_needFable wsX2_needFable) := goodIn_app (goodIn_of _ (by decide +kernel)) ggX2_variantsOf_X2_needFable
set_option maxRecDepth 20000 in
theorem ggX2_variantsOf_X2_size : GoodIn wsX2_variantsOf wsX2_size := goodIn_r _ [13, 14, 15, 16, 17, 18, 19, 20] (by decide +kernel) (by decide +kernel)
set_option maxRecDepth 20000 in
theorem gX2_variantsOf_X2_size : GoodIn wsX2_variantsOf (va_wsS RX2 70 yX2_size wsX2_size) := goodIn_app (goodIn_of _ (by decide +kernel)) ggX2_variantsOf_X2_size
theorem dX2_variantsOf_0 : decode cX2_variantsOf 0 = .ok (.aload_n 0, 1) := by decide +kernel
theorem dX2_variantsOf_1 : decode cX2_variantsOf 1 = .ok (.iload_n 1, 1) := by decide +kernel
theorem dX2_variantsOf_2 : decode cX2_variantsOf 2 = .ok (.invokevirtual 47, 3) := by decide +kernel
theorem dX2_variantsOf_5 : decode cX2_variantsOf 5 = .ok (.aload_n 0, 1) := by decide +kernel
theorem dX2_variantsOf_6 : decode cX2_variantsOf 6 = .ok (.getfield 10, 3) := by decide +kernel
theorem dX2_variantsOf_9 : decode cX2_variantsOf 9 = .ok (.getfield 65, 3) := by decide +kernel
theorem dX2_variantsOf_12 : decode cX2_variantsOf 12 = .ok (.iload_n 1, 1) := by decide +kernel
theorem dX2_variantsOf_13 : decode cX2_variantsOf 13 = .ok (.iaload, 1) := by decide +kernel
theorem dX2_variantsOf_14 : decode cX2_variantsOf 14 = .ok (.invokestatic 70, 3) := by decide +kernel
theorem dX2_variantsOf_17 : decode cX2_variantsOf 17 = .ok (.ireturn, 1) := by decide +kernel
set_option maxRecDepth 20000 in
theorem ggX2_valleysOf_X2_needFable : GoodIn wsX2_valleysOf wsX2_needFable := goodIn_ca (goodIn_r _ [6, 7, 8, 9, 10, 26, 27, 28, 29, 30, 31, 32, 33, 34, 35, 36] (by decide +kernel) (by decide +kernel)) (goodIn_sub (fun _ h => List.mem_cons_of_mem _ (List.mem_append_right _ h)) (by decide +kernel))
set_option maxRecDepth 20000 in
theorem gX2_valleysOf_X2_needFable : GoodIn wsX2_valleysOf (wsV RX2 47 RX2 yX2_needFable wsX2_needFable) := goodIn_app (goodIn_of _ (by decide +kernel)) ggX2_valleysOf_X2_needFable
set_option maxRecDepth 20000 in
theorem ggX2_valleysOf_X1_count : GoodIn wsX2_valleysOf wsX1_count := goodIn_r _ [15, 16, 17, 5, 18, 19, 20, 21, 22, 23, 24, 25, 37, 38, 39, 40, 41, 42, 43] (by decide +kernel) (by decide +kernel)
set_option maxRecDepth 20000 in
theorem gX2_valleysOf_X1_count : GoodIn wsX2_valleysOf (wsV RX2 114 RX1 yX1_count wsX1_count) := goodIn_app (goodIn_of _ (by decide +kernel)) ggX2_valleysOf_X1_count
theorem dX2_valleysOf_0 : decode cX2_valleysOf 0 = .ok (.aload_n 0, 1) := by decide +kernel
theorem dX2_valleysOf_1 : decode cX2_valleysOf 1 = .ok (.iload_n 1, 1) := by decide +kernel
theorem dX2_valleysOf_2 : decode cX2_valleysOf 2 = .ok (.invokevirtual 47, 3) := by decide +kernel
theorem dX2_valleysOf_5 : decode cX2_valleysOf 5 = .ok (.aload_n 0, 1) := by decide +kernel
theorem dX2_valleysOf_6 : decode cX2_valleysOf 6 = .ok (.getfield 19, 3) := by decide +kernel
theorem dX2_valleysOf_9 : decode cX2_valleysOf 9 = .ok (.iconst 1, 1) := by decide +kernel
theorem dX2_valleysOf_10 : decode cX2_valleysOf 10 = .ok (.iload_n 1, 1) := by decide +kernel
theorem dX2_valleysOf_11 : decode cX2_valleysOf 11 = .ok (.ishl, 1) := by decide +kernel
theorem dX2_valleysOf_12 : decode cX2_valleysOf 12 = .ok (.invokevirtual 114, 3) := by decide +kernel
theorem dX2_valleysOf_15 : decode cX2_valleysOf 15 = .ok (.ireturn, 1) := by decide +kernel
set_option maxRecDepth 20000 in
theorem ggX2_nearestAncestor_X2_needFable : GoodIn wsX2_nearestAncestor wsX2_needFable := goodIn_ca (goodIn_r _ [7, 8, 9, 1, 10, 17, 18, 19, 20, 21, 22, 23, 24, 25, 26, 27] (by decide +kernel) (by decide +kernel)) (goodIn_sub (fun _ h => List.mem_cons_of_mem _ (List.mem_append_right _ h)) (by decide +kernel))
set_option maxRecDepth 20000 in
theorem gX2_nearestAncestor_X2_needFable : GoodIn wsX2_nearestAncestor (wsV RX2 47 RX2 yX2_needFable wsX2_needFable) := goodIn_app (goodIn_of _ (by decide +kernel)) ggX2_nearestAncestor_X2_needFable
set_option maxRecDepth 20000 in
theorem ggX2_nearestAncestor_X2_greatest : GoodIn wsX2_nearestAncestor wsX2_greatest := goodIn_r _ [13, 14, 15, 6, 16] (by decide +kernel) (by decide +kernel)
set_option maxRecDepth 20000 in
theorem gX2_nearestAncestor_X2_greatest : GoodIn wsX2_nearestAncestor (va_wsS RX2 139 yX2_greatest wsX2_greatest) := goodIn_app (goodIn_of _ (by decide +kernel)) ggX2_nearestAncestor_X2_greatest
theorem dX2_nearestAncestor_0 : decode cX2_nearestAncestor 0 = .ok (.aload_n 0, 1) := by decide +kernel
theorem dX2_nearestAncestor_1 : decode cX2_nearestAncestor 1 = .ok (.iload_n 1, 1) := by decide +kernel
theorem dX2_nearestAncestor_2 : decode cX2_nearestAncestor 2 = .ok (.invokevirtual 47, 3) := by decide +kernel
theorem dX2_nearestAncestor_5 : decode cX2_nearestAncestor 5 = .ok (.aload_n 0, 1) := by decide +kernel
theorem dX2_nearestAncestor_6 : decode cX2_nearestAncestor 6 = .ok (.iload_n 2, 1) := by decide +kernel
theorem dX2_nearestAncestor_7 : decode cX2_nearestAncestor 7 = .ok (.invokevirtual 47, 3) := by decide +kernel
theorem dX2_nearestAncestor_10 : decode cX2_nearestAncestor 10 = .ok (.aload_n 0, 1) := by decide +kernel
theorem dX2_nearestAncestor_11 : decode cX2_nearestAncestor 11 = .ok (.getfield 10, 3) := by decide +kernel
theorem dX2_nearestAncestor_14 : decode cX2_nearestAncestor 14 = .ok (.getfield 136, 3) := by decide +kernel
theorem dX2_nearestAncestor_17 : decode cX2_nearestAncestor 17 = .ok (.iload_n 1, 1) := by decide +kernel
theorem dX2_nearestAncestor_18 : decode cX2_nearestAncestor 18 = .ok (.iaload, 1) := by decide +kernel
theorem dX2_nearestAncestor_19 : decode cX2_nearestAncestor 19 = .ok (.aload_n 0, 1) := by decide +kernel
theorem dX2_nearestAncestor_20 : decode cX2_nearestAncestor 20 = .ok (.getfield 10, 3) := by decide +kernel
theorem dX2_nearestAncestor_23 : decode cX2_nearestAncestor 23 = .ok (.getfield 136, 3) := by decide +kernel
theorem dX2_nearestAncestor_26 : decode cX2_nearestAncestor 26 = .ok (.iload_n 2, 1) := by decide +kernel
theorem dX2_nearestAncestor_27 : decode cX2_nearestAncestor 27 = .ok (.iaload, 1) := by decide +kernel
theorem dX2_nearestAncestor_28 : decode cX2_nearestAncestor 28 = .ok (.iand, 1) := by decide +kernel
theorem dX2_nearestAncestor_29 : decode cX2_nearestAncestor 29 = .ok (.invokestatic 139, 3) := by decide +kernel
theorem dX2_nearestAncestor_32 : decode cX2_nearestAncestor 32 = .ok (.ireturn, 1) := by decide +kernel
set_option maxRecDepth 20000 in
theorem ggX2_kinship_X2_needFable : GoodIn wsX2_kinship wsX2_needFable := goodIn_ca (goodIn_r _ [7, 8, 9, 1, 10, 21, 22, 23, 24, 25, 26, 27, 28, 29, 30, 31] (by decide +kernel) (by decide +kernel)) (goodIn_sub (fun _ h => List.mem_cons_of_mem _ (List.mem_append_right _ h)) (by decide +kernel))
set_option maxRecDepth 20000 in
theorem gX2_kinship_X2_needFable : GoodIn wsX2_kinship (wsV RX2 47 RX2 yX2_needFable wsX2_needFable) := goodIn_app (goodIn_of _ (by decide +kernel)) ggX2_kinship_X2_needFable
set_option maxRecDepth 20000 in
theorem ggX2_kinship_X2_size : GoodIn wsX2_kinship wsX2_size := goodIn_r _ [13, 14, 15, 16, 17, 18, 19, 20] (by decide +kernel) (by decide +kernel)
set_option maxRecDepth 20000 in
theorem gX2_kinship_X2_size : GoodIn wsX2_kinship (va_wsS RX2 70 yX2_size wsX2_size) := goodIn_app (goodIn_of _ (by decide +kernel)) ggX2_kinship_X2_size
theorem dX2_kinship_0 : decode cX2_kinship 0 = .ok (.aload_n 0, 1) := by decide +kernel
theorem dX2_kinship_1 : decode cX2_kinship 1 = .ok (.iload_n 1, 1) := by decide +kernel
theorem dX2_kinship_2 : decode cX2_kinship 2 = .ok (.invokevirtual 47, 3) := by decide +kernel
theorem dX2_kinship_5 : decode cX2_kinship 5 = .ok (.aload_n 0, 1) := by decide +kernel
theorem dX2_kinship_6 : decode cX2_kinship 6 = .ok (.iload_n 2, 1) := by decide +kernel
theorem dX2_kinship_7 : decode cX2_kinship 7 = .ok (.invokevirtual 47, 3) := by decide +kernel
theorem dX2_kinship_10 : decode cX2_kinship 10 = .ok (.aload_n 0, 1) := by decide +kernel
theorem dX2_kinship_11 : decode cX2_kinship 11 = .ok (.getfield 10, 3) := by decide +kernel
theorem dX2_kinship_14 : decode cX2_kinship 14 = .ok (.getfield 136, 3) := by decide +kernel
theorem dX2_kinship_17 : decode cX2_kinship 17 = .ok (.iload_n 1, 1) := by decide +kernel
theorem dX2_kinship_18 : decode cX2_kinship 18 = .ok (.iaload, 1) := by decide +kernel
theorem dX2_kinship_19 : decode cX2_kinship 19 = .ok (.aload_n 0, 1) := by decide +kernel
theorem dX2_kinship_20 : decode cX2_kinship 20 = .ok (.getfield 10, 3) := by decide +kernel
theorem dX2_kinship_23 : decode cX2_kinship 23 = .ok (.getfield 136, 3) := by decide +kernel
theorem dX2_kinship_26 : decode cX2_kinship 26 = .ok (.iload_n 2, 1) := by decide +kernel
theorem dX2_kinship_27 : decode cX2_kinship 27 = .ok (.iaload, 1) := by decide +kernel
theorem dX2_kinship_28 : decode cX2_kinship 28 = .ok (.iand, 1) := by decide +kernel
theorem dX2_kinship_29 : decode cX2_kinship 29 = .ok (.ifCond .ne 5, 3) := by decide +kernel
theorem dX2_kinship_32 : decode cX2_kinship 32 = .ok (.iconst (-1), 1) := by decide +kernel
theorem dX2_kinship_33 : decode cX2_kinship 33 = .ok (.ireturn, 1) := by decide +kernel
theorem dX2_kinship_34 : decode cX2_kinship 34 = .ok (.aload_n 0, 1) := by decide +kernel
theorem dX2_kinship_35 : decode cX2_kinship 35 = .ok (.getfield 10, 3) := by decide +kernel
theorem dX2_kinship_38 : decode cX2_kinship 38 = .ok (.getfield 136, 3) := by decide +kernel
theorem dX2_kinship_41 : decode cX2_kinship 41 = .ok (.iload_n 1, 1) := by decide +kernel
theorem dX2_kinship_42 : decode cX2_kinship 42 = .ok (.iaload, 1) := by decide +kernel
theorem dX2_kinship_43 : decode cX2_kinship 43 = .ok (.aload_n 0, 1) := by decide +kernel
theorem dX2_kinship_44 : decode cX2_kinship 44 = .ok (.getfield 10, 3) := by decide +kernel
theorem dX2_kinship_47 : decode cX2_kinship 47 = .ok (.getfield 136, 3) := by decide +kernel
theorem dX2_kinship_50 : decode cX2_kinship 50 = .ok (.iload_n 2, 1) := by decide +kernel
theorem dX2_kinship_51 : decode cX2_kinship 51 = .ok (.iaload, 1) := by decide +kernel
theorem dX2_kinship_52 : decode cX2_kinship 52 = .ok (.ixor, 1) := by decide +kernel
theorem dX2_kinship_53 : decode cX2_kinship 53 = .ok (.invokestatic 70, 3) := by decide +kernel
theorem dX2_kinship_56 : decode cX2_kinship 56 = .ok (.ireturn, 1) := by decide +kernel
set_option maxRecDepth 20000 in
theorem ggX2_sharedBeasts_X2_needFable : GoodIn wsX2_sharedBeasts wsX2_needFable := goodIn_ca (goodIn_r _ [7, 8, 9, 1, 10, 21, 22, 23, 24, 25, 26, 27, 28, 29, 30, 31] (by decide +kernel) (by decide +kernel)) (goodIn_sub (fun _ h => List.mem_cons_of_mem _ (List.mem_append_right _ h)) (by decide +kernel))
set_option maxRecDepth 20000 in
theorem gX2_sharedBeasts_X2_needFable : GoodIn wsX2_sharedBeasts (wsV RX2 47 RX2 yX2_needFable wsX2_needFable) := goodIn_app (goodIn_of _ (by decide +kernel)) ggX2_sharedBeasts_X2_needFable
set_option maxRecDepth 20000 in
theorem ggX2_sharedBeasts_X2_size : GoodIn wsX2_sharedBeasts wsX2_size := goodIn_r _ [13, 14, 15, 16, 17, 18, 19, 20] (by decide +kernel) (by decide +kernel)
set_option maxRecDepth 20000 in
theorem gX2_sharedBeasts_X2_size : GoodIn wsX2_sharedBeasts (va_wsS RX2 70 yX2_size wsX2_size) := goodIn_app (goodIn_of _ (by decide +kernel)) ggX2_sharedBeasts_X2_size
theorem dX2_sharedBeasts_0 : decode cX2_sharedBeasts 0 = .ok (.aload_n 0, 1) := by decide +kernel
theorem dX2_sharedBeasts_1 : decode cX2_sharedBeasts 1 = .ok (.iload_n 1, 1) := by decide +kernel
theorem dX2_sharedBeasts_2 : decode cX2_sharedBeasts 2 = .ok (.invokevirtual 47, 3) := by decide +kernel
theorem dX2_sharedBeasts_5 : decode cX2_sharedBeasts 5 = .ok (.aload_n 0, 1) := by decide +kernel
theorem dX2_sharedBeasts_6 : decode cX2_sharedBeasts 6 = .ok (.iload_n 2, 1) := by decide +kernel
theorem dX2_sharedBeasts_7 : decode cX2_sharedBeasts 7 = .ok (.invokevirtual 47, 3) := by decide +kernel
theorem dX2_sharedBeasts_10 : decode cX2_sharedBeasts 10 = .ok (.aload_n 0, 1) := by decide +kernel
theorem dX2_sharedBeasts_11 : decode cX2_sharedBeasts 11 = .ok (.getfield 10, 3) := by decide +kernel
theorem dX2_sharedBeasts_14 : decode cX2_sharedBeasts 14 = .ok (.getfield 50, 3) := by decide +kernel
theorem dX2_sharedBeasts_17 : decode cX2_sharedBeasts 17 = .ok (.iload_n 1, 1) := by decide +kernel
theorem dX2_sharedBeasts_18 : decode cX2_sharedBeasts 18 = .ok (.iaload, 1) := by decide +kernel
theorem dX2_sharedBeasts_19 : decode cX2_sharedBeasts 19 = .ok (.aload_n 0, 1) := by decide +kernel
theorem dX2_sharedBeasts_20 : decode cX2_sharedBeasts 20 = .ok (.getfield 10, 3) := by decide +kernel
theorem dX2_sharedBeasts_23 : decode cX2_sharedBeasts 23 = .ok (.getfield 50, 3) := by decide +kernel
theorem dX2_sharedBeasts_26 : decode cX2_sharedBeasts 26 = .ok (.iload_n 2, 1) := by decide +kernel
theorem dX2_sharedBeasts_27 : decode cX2_sharedBeasts 27 = .ok (.iaload, 1) := by decide +kernel
theorem dX2_sharedBeasts_28 : decode cX2_sharedBeasts 28 = .ok (.iand, 1) := by decide +kernel
theorem dX2_sharedBeasts_29 : decode cX2_sharedBeasts 29 = .ok (.invokestatic 70, 3) := by decide +kernel
theorem dX2_sharedBeasts_32 : decode cX2_sharedBeasts 32 = .ok (.ireturn, 1) := by decide +kernel
set_option maxRecDepth 20000 in
theorem ggX2_isOpen_X2_needValley : GoodIn wsX2_isOpen wsX2_needValley := goodIn_ca (goodIn_r _ [6, 7, 8] (by decide +kernel) (by decide +kernel)) (goodIn_sub (fun _ h => List.mem_cons_of_mem _ (List.mem_append_right _ h)) (by decide +kernel))
set_option maxRecDepth 20000 in
theorem gX2_isOpen_X2_needValley : GoodIn wsX2_isOpen (va_wsS RX2 37 yX2_needValley wsX2_needValley) := goodIn_app (goodIn_of _ (by decide +kernel)) ggX2_isOpen_X2_needValley
set_option maxRecDepth 20000 in
theorem ggX2_isOpen_X2_has : GoodIn wsX2_isOpen wsX2_has := goodIn_r _ [11] (by decide +kernel) (by decide +kernel)
set_option maxRecDepth 20000 in
theorem gX2_isOpen_X2_has : GoodIn wsX2_isOpen (va_wsS RX2 54 yX2_has wsX2_has) := goodIn_app (goodIn_of _ (by decide +kernel)) ggX2_isOpen_X2_has
theorem dX2_isOpen_0 : decode cX2_isOpen 0 = .ok (.iload_n 1, 1) := by decide +kernel
theorem dX2_isOpen_1 : decode cX2_isOpen 1 = .ok (.invokestatic 37, 3) := by decide +kernel
theorem dX2_isOpen_4 : decode cX2_isOpen 4 = .ok (.iload_n 2, 1) := by decide +kernel
theorem dX2_isOpen_5 : decode cX2_isOpen 5 = .ok (.invokestatic 37, 3) := by decide +kernel
theorem dX2_isOpen_8 : decode cX2_isOpen 8 = .ok (.aload_n 0, 1) := by decide +kernel
theorem dX2_isOpen_9 : decode cX2_isOpen 9 = .ok (.getfield 19, 3) := by decide +kernel
theorem dX2_isOpen_12 : decode cX2_isOpen 12 = .ok (.getfield 94, 3) := by decide +kernel
theorem dX2_isOpen_15 : decode cX2_isOpen 15 = .ok (.iload_n 1, 1) := by decide +kernel
theorem dX2_isOpen_16 : decode cX2_isOpen 16 = .ok (.iaload, 1) := by decide +kernel
theorem dX2_isOpen_17 : decode cX2_isOpen 17 = .ok (.iload_n 2, 1) := by decide +kernel
theorem dX2_isOpen_18 : decode cX2_isOpen 18 = .ok (.invokestatic 54, 3) := by decide +kernel
theorem dX2_isOpen_21 : decode cX2_isOpen 21 = .ok (.ireturn, 1) := by decide +kernel
set_option maxRecDepth 20000 in
theorem ggX2_isBanned_X2_needFable : GoodIn wsX2_isBanned wsX2_needFable := goodIn_ca (goodIn_r _ [7, 8, 9, 2, 10, 25, 26, 27, 28, 29, 30, 31, 32, 33, 34, 35] (by decide +kernel) (by decide +kernel)) (goodIn_sub (fun _ h => List.mem_cons_of_mem _ (List.mem_append_right _ h)) (by decide +kernel))
set_option maxRecDepth 20000 in
theorem gX2_isBanned_X2_needFable : GoodIn wsX2_isBanned (wsV RX2 47 RX2 yX2_needFable wsX2_needFable) := goodIn_app (goodIn_of _ (by decide +kernel)) ggX2_isBanned_X2_needFable
set_option maxRecDepth 20000 in
theorem ggX2_isBanned_X2_needValley : GoodIn wsX2_isBanned wsX2_needValley := goodIn_ca (goodIn_r _ [13, 8, 9] (by decide +kernel) (by decide +kernel)) (goodIn_sub (fun _ h => List.mem_cons_of_mem _ (List.mem_append_right _ h)) (by decide +kernel))
set_option maxRecDepth 20000 in
theorem gX2_isBanned_X2_needValley : GoodIn wsX2_isBanned (va_wsS RX2 37 yX2_needValley wsX2_needValley) := goodIn_app (goodIn_of _ (by decide +kernel)) ggX2_isBanned_X2_needValley
set_option maxRecDepth 20000 in
theorem ggX2_isBanned_X1_bans : GoodIn wsX2_isBanned wsX1_bans := goodIn_r _ [18, 19, 20, 21, 22, 23, 6, 24, 36, 37, 38, 39, 40, 41, 42, 29, 30, 31, 32, 33, 34, 35] (by decide +kernel) (by decide +kernel)
set_option maxRecDepth 20000 in
theorem gX2_isBanned_X1_bans : GoodIn wsX2_isBanned (wsV RX2 108 RX1 yX1_bans wsX1_bans) := goodIn_app (goodIn_of _ (by decide +kernel)) ggX2_isBanned_X1_bans
theorem dX2_isBanned_0 : decode cX2_isBanned 0 = .ok (.aload_n 0, 1) := by decide +kernel
theorem dX2_isBanned_1 : decode cX2_isBanned 1 = .ok (.iload_n 1, 1) := by decide +kernel
theorem dX2_isBanned_2 : decode cX2_isBanned 2 = .ok (.invokevirtual 47, 3) := by decide +kernel
theorem dX2_isBanned_5 : decode cX2_isBanned 5 = .ok (.iload_n 2, 1) := by decide +kernel
theorem dX2_isBanned_6 : decode cX2_isBanned 6 = .ok (.invokestatic 37, 3) := by decide +kernel
theorem dX2_isBanned_9 : decode cX2_isBanned 9 = .ok (.aload_n 0, 1) := by decide +kernel
theorem dX2_isBanned_10 : decode cX2_isBanned 10 = .ok (.getfield 19, 3) := by decide +kernel
theorem dX2_isBanned_13 : decode cX2_isBanned 13 = .ok (.aload_n 0, 1) := by decide +kernel
theorem dX2_isBanned_14 : decode cX2_isBanned 14 = .ok (.getfield 10, 3) := by decide +kernel
theorem dX2_isBanned_17 : decode cX2_isBanned 17 = .ok (.iload_n 1, 1) := by decide +kernel
theorem dX2_isBanned_18 : decode cX2_isBanned 18 = .ok (.iload_n 2, 1) := by decide +kernel
theorem dX2_isBanned_19 : decode cX2_isBanned 19 = .ok (.invokevirtual 108, 3) := by decide +kernel
theorem dX2_isBanned_22 : decode cX2_isBanned 22 = .ok (.ireturn, 1) := by decide +kernel
set_option maxRecDepth 20000 in
theorem ggX2_isTold_X2_needFable : GoodIn wsX2_isTold wsX2_needFable := goodIn_ca (goodIn_r _ [7, 8, 9, 10, 11, 18, 19, 20, 21, 29, 30, 31, 32, 33, 34, 35] (by decide +kernel) (by decide +kernel)) (goodIn_sub (fun _ h => List.mem_cons_of_mem _ (List.mem_append_right _ h)) (by decide +kernel))
set_option maxRecDepth 20000 in
theorem gX2_isTold_X2_needFable : GoodIn wsX2_isTold (wsV RX2 47 RX2 yX2_needFable wsX2_needFable) := goodIn_app (goodIn_of _ (by decide +kernel)) ggX2_isTold_X2_needFable
set_option maxRecDepth 20000 in
theorem ggX2_isTold_X2_needValley : GoodIn wsX2_isTold wsX2_needValley := goodIn_ca (goodIn_r _ [14, 8, 9] (by decide +kernel) (by decide +kernel)) (goodIn_sub (fun _ h => List.mem_cons_of_mem _ (List.mem_append_right _ h)) (by decide +kernel))
set_option maxRecDepth 20000 in
theorem gX2_isTold_X2_needValley : GoodIn wsX2_isTold (va_wsS RX2 37 yX2_needValley wsX2_needValley) := goodIn_app (goodIn_of _ (by decide +kernel)) ggX2_isTold_X2_needValley
set_option maxRecDepth 20000 in
theorem ggX2_isTold_X2_has : GoodIn wsX2_isTold wsX2_has := goodIn_r _ [17] (by decide +kernel) (by decide +kernel)
set_option maxRecDepth 20000 in
theorem gX2_isTold_X2_has : GoodIn wsX2_isTold (va_wsS RX2 54 yX2_has wsX2_has) := goodIn_app (goodIn_of _ (by decide +kernel)) ggX2_isTold_X2_has
theorem dX2_isTold_0 : decode cX2_isTold 0 = .ok (.aload_n 0, 1) := by decide +kernel
theorem dX2_isTold_1 : decode cX2_isTold 1 = .ok (.iload_n 1, 1) := by decide +kernel
theorem dX2_isTold_2 : decode cX2_isTold 2 = .ok (.invokevirtual 47, 3) := by decide +kernel
theorem dX2_isTold_5 : decode cX2_isTold 5 = .ok (.iload_n 2, 1) := by decide +kernel
theorem dX2_isTold_6 : decode cX2_isTold 6 = .ok (.invokestatic 37, 3) := by decide +kernel
theorem dX2_isTold_9 : decode cX2_isTold 9 = .ok (.aload_n 0, 1) := by decide +kernel
theorem dX2_isTold_10 : decode cX2_isTold 10 = .ok (.getfield 19, 3) := by decide +kernel
theorem dX2_isTold_13 : decode cX2_isTold 13 = .ok (.getfield 103, 3) := by decide +kernel
theorem dX2_isTold_16 : decode cX2_isTold 16 = .ok (.iload_n 2, 1) := by decide +kernel
theorem dX2_isTold_17 : decode cX2_isTold 17 = .ok (.iaload, 1) := by decide +kernel
theorem dX2_isTold_18 : decode cX2_isTold 18 = .ok (.iload_n 1, 1) := by decide +kernel
theorem dX2_isTold_19 : decode cX2_isTold 19 = .ok (.invokestatic 54, 3) := by decide +kernel
theorem dX2_isTold_22 : decode cX2_isTold 22 = .ok (.ireturn, 1) := by decide +kernel
set_option maxRecDepth 20000 in
theorem ggX2_toldIn_X2_needValley : GoodIn wsX2_toldIn wsX2_needValley := goodIn_ca (goodIn_r _ [6, 7, 8] (by decide +kernel) (by decide +kernel)) (goodIn_sub (fun _ h => List.mem_cons_of_mem _ (List.mem_append_right _ h)) (by decide +kernel))
set_option maxRecDepth 20000 in
theorem gX2_toldIn_X2_needValley : GoodIn wsX2_toldIn (va_wsS RX2 37 yX2_needValley wsX2_needValley) := goodIn_app (goodIn_of _ (by decide +kernel)) ggX2_toldIn_X2_needValley
set_option maxRecDepth 20000 in
theorem ggX2_toldIn_X2_size : GoodIn wsX2_toldIn wsX2_size := goodIn_r _ [11, 12, 13, 14, 15, 16, 17, 18] (by decide +kernel) (by decide +kernel)
set_option maxRecDepth 20000 in
theorem gX2_toldIn_X2_size : GoodIn wsX2_toldIn (va_wsS RX2 70 yX2_size wsX2_size) := goodIn_app (goodIn_of _ (by decide +kernel)) ggX2_toldIn_X2_size
theorem dX2_toldIn_0 : decode cX2_toldIn 0 = .ok (.iload_n 1, 1) := by decide +kernel
theorem dX2_toldIn_1 : decode cX2_toldIn 1 = .ok (.invokestatic 37, 3) := by decide +kernel
theorem dX2_toldIn_4 : decode cX2_toldIn 4 = .ok (.aload_n 0, 1) := by decide +kernel
theorem dX2_toldIn_5 : decode cX2_toldIn 5 = .ok (.getfield 19, 3) := by decide +kernel
theorem dX2_toldIn_8 : decode cX2_toldIn 8 = .ok (.getfield 103, 3) := by decide +kernel
theorem dX2_toldIn_11 : decode cX2_toldIn 11 = .ok (.iload_n 1, 1) := by decide +kernel
theorem dX2_toldIn_12 : decode cX2_toldIn 12 = .ok (.iaload, 1) := by decide +kernel
theorem dX2_toldIn_13 : decode cX2_toldIn 13 = .ok (.invokestatic 70, 3) := by decide +kernel
theorem dX2_toldIn_16 : decode cX2_toldIn 16 = .ok (.ireturn, 1) := by decide +kernel
set_option maxRecDepth 20000 in
theorem ggX2_allowedIn_X2_needValley : GoodIn wsX2_allowedIn wsX2_needValley := goodIn_ca (goodIn_r _ [6, 7, 8] (by decide +kernel) (by decide +kernel)) (goodIn_sub (fun _ h => List.mem_cons_of_mem _ (List.mem_append_right _ h)) (by decide +kernel))
set_option maxRecDepth 20000 in
theorem gX2_allowedIn_X2_needValley : GoodIn wsX2_allowedIn (va_wsS RX2 37 yX2_needValley wsX2_needValley) := goodIn_app (goodIn_of _ (by decide +kernel)) ggX2_allowedIn_X2_needValley
set_option maxRecDepth 20000 in
theorem ggX2_allowedIn_X1_welcome : GoodIn wsX2_allowedIn wsX1_welcome := goodIn_r _ [13, 14, 15, 16, 17, 12, 18, 19, 20, 21, 22, 23, 5, 24, 39, 40, 41, 42, 43, 44, 45, 46, 47, 48, 49, 50, 51, 52] (by decide +kernel) (by decide +kernel)
set_option maxRecDepth 20000 in
theorem gX2_allowedIn_X1_welcome : GoodIn wsX2_allowedIn (wsV RX2 142 RX1 yX1_welcome wsX1_welcome) := goodIn_app (goodIn_of _ (by decide +kernel)) ggX2_allowedIn_X1_welcome
set_option maxRecDepth 20000 in
theorem ggX2_allowedIn_X2_size : GoodIn wsX2_allowedIn wsX2_size := goodIn_r _ [27, 28, 29, 30, 31, 32, 33, 34] (by decide +kernel) (by decide +kernel)
set_option maxRecDepth 20000 in
theorem gX2_allowedIn_X2_size : GoodIn wsX2_allowedIn (va_wsS RX2 70 yX2_size wsX2_size) := goodIn_app (goodIn_of _ (by decide +kernel)) ggX2_allowedIn_X2_size
theorem dX2_allowedIn_0 : decode cX2_allowedIn 0 = .ok (.iload_n 1, 1) := by decide +kernel
theorem dX2_allowedIn_1 : decode cX2_allowedIn 1 = .ok (.invokestatic 37, 3) := by decide +kernel
theorem dX2_allowedIn_4 : decode cX2_allowedIn 4 = .ok (.aload_n 0, 1) := by decide +kernel
theorem dX2_allowedIn_5 : decode cX2_allowedIn 5 = .ok (.getfield 19, 3) := by decide +kernel
theorem dX2_allowedIn_8 : decode cX2_allowedIn 8 = .ok (.aload_n 0, 1) := by decide +kernel
theorem dX2_allowedIn_9 : decode cX2_allowedIn 9 = .ok (.getfield 10, 3) := by decide +kernel
theorem dX2_allowedIn_12 : decode cX2_allowedIn 12 = .ok (.iload_n 1, 1) := by decide +kernel
theorem dX2_allowedIn_13 : decode cX2_allowedIn 13 = .ok (.invokevirtual 142, 3) := by decide +kernel
theorem dX2_allowedIn_16 : decode cX2_allowedIn 16 = .ok (.invokestatic 70, 3) := by decide +kernel
theorem dX2_allowedIn_19 : decode cX2_allowedIn 19 = .ok (.ireturn, 1) := by decide +kernel
set_option maxRecDepth 20000 in
theorem ggX2_bansOf_X2_needValley : GoodIn wsX2_bansOf wsX2_needValley := goodIn_ca (goodIn_r _ [7, 8, 9] (by decide +kernel) (by decide +kernel)) (goodIn_sub (fun _ h => List.mem_cons_of_mem _ (List.mem_append_right _ h)) (by decide +kernel))
set_option maxRecDepth 20000 in
theorem gX2_bansOf_X2_needValley : GoodIn wsX2_bansOf (va_wsS RX2 37 yX2_needValley wsX2_needValley) := goodIn_app (goodIn_of _ (by decide +kernel)) ggX2_bansOf_X2_needValley
set_option maxRecDepth 20000 in
theorem ggX2_bansOf_X2_size : GoodIn wsX2_bansOf wsX2_size := goodIn_r _ [12, 13, 14, 15, 16, 17, 18, 19] (by decide +kernel) (by decide +kernel)
set_option maxRecDepth 20000 in
theorem gX2_bansOf_X2_size : GoodIn wsX2_bansOf (va_wsS RX2 70 yX2_size wsX2_size) := goodIn_app (goodIn_of _ (by decide +kernel)) ggX2_bansOf_X2_size
theorem dX2_bansOf_0 : decode cX2_bansOf 0 = .ok (.iload_n 1, 1) := by decide +kernel
theorem dX2_bansOf_1 : decode cX2_bansOf 1 = .ok (.invokestatic 37, 3) := by decide +kernel
theorem dX2_bansOf_4 : decode cX2_bansOf 4 = .ok (.aload_n 0, 1) := by decide +kernel
theorem dX2_bansOf_5 : decode cX2_bansOf 5 = .ok (.getfield 19, 3) := by decide +kernel
theorem dX2_bansOf_8 : decode cX2_bansOf 8 = .ok (.getfield 97, 3) := by decide +kernel
theorem dX2_bansOf_11 : decode cX2_bansOf 11 = .ok (.iload_n 1, 1) := by decide +kernel
theorem dX2_bansOf_12 : decode cX2_bansOf 12 = .ok (.iaload, 1) := by decide +kernel
theorem dX2_bansOf_13 : decode cX2_bansOf 13 = .ok (.invokestatic 70, 3) := by decide +kernel
theorem dX2_bansOf_16 : decode cX2_bansOf 16 = .ok (.aload_n 0, 1) := by decide +kernel
theorem dX2_bansOf_17 : decode cX2_bansOf 17 = .ok (.getfield 19, 3) := by decide +kernel
theorem dX2_bansOf_20 : decode cX2_bansOf 20 = .ok (.getfield 100, 3) := by decide +kernel
theorem dX2_bansOf_23 : decode cX2_bansOf 23 = .ok (.iload_n 1, 1) := by decide +kernel
theorem dX2_bansOf_24 : decode cX2_bansOf 24 = .ok (.iaload, 1) := by decide +kernel
theorem dX2_bansOf_25 : decode cX2_bansOf 25 = .ok (.invokestatic 70, 3) := by decide +kernel
theorem dX2_bansOf_28 : decode cX2_bansOf 28 = .ok (.iadd, 1) := by decide +kernel
theorem dX2_bansOf_29 : decode cX2_bansOf 29 = .ok (.ireturn, 1) := by decide +kernel
theorem dX2_fables_0 : decode cX2_fables 0 = .ok (.aload_n 0, 1) := by decide +kernel
theorem dX2_fables_1 : decode cX2_fables 1 = .ok (.getfield 10, 3) := by decide +kernel
theorem dX2_fables_4 : decode cX2_fables 4 = .ok (.getfield 146, 3) := by decide +kernel
theorem dX2_fables_7 : decode cX2_fables 7 = .ok (.ireturn, 1) := by decide +kernel
theorem dX2_season_0 : decode cX2_season 0 = .ok (.aload_n 0, 1) := by decide +kernel
theorem dX2_season_1 : decode cX2_season 1 = .ok (.getfield 26, 3) := by decide +kernel
theorem dX2_season_4 : decode cX2_season 4 = .ok (.ireturn, 1) := by decide +kernel
set_option maxRecDepth 20000 in
theorem ggX2_tellings_X0_all : GoodIn wsX2_tellings wsX0_all := goodIn_r _ [7, 8, 29, 30, 31, 32, 33, 34, 35] (by decide +kernel) (by decide +kernel)
set_option maxRecDepth 20000 in
theorem gX2_tellings_X0_all : GoodIn wsX2_tellings (wsV RX2 126 RX0 yX0_all wsX0_all) := goodIn_app (goodIn_of _ (by decide +kernel)) ggX2_tellings_X0_all
set_option maxRecDepth 20000 in
theorem ggX2_tellings_X1_count : GoodIn wsX2_tellings wsX1_count := goodIn_r _ [13, 14, 15, 16, 17, 18, 19, 20, 21, 22, 23, 24, 36, 37, 38, 39, 40, 41, 42] (by decide +kernel) (by decide +kernel)
set_option maxRecDepth 20000 in
theorem gX2_tellings_X1_count : GoodIn wsX2_tellings (wsV RX2 114 RX1 yX1_count wsX1_count) := goodIn_app (goodIn_of _ (by decide +kernel)) ggX2_tellings_X1_count
theorem dX2_tellings_0 : decode cX2_tellings 0 = .ok (.aload_n 0, 1) := by decide +kernel
theorem dX2_tellings_1 : decode cX2_tellings 1 = .ok (.getfield 19, 3) := by decide +kernel
theorem dX2_tellings_4 : decode cX2_tellings 4 = .ok (.aload_n 0, 1) := by decide +kernel
theorem dX2_tellings_5 : decode cX2_tellings 5 = .ok (.getfield 10, 3) := by decide +kernel
theorem dX2_tellings_8 : decode cX2_tellings 8 = .ok (.invokevirtual 126, 3) := by decide +kernel
theorem dX2_tellings_11 : decode cX2_tellings 11 = .ok (.invokevirtual 114, 3) := by decide +kernel
theorem dX2_tellings_14 : decode cX2_tellings 14 = .ok (.ireturn, 1) := by decide +kernel
theorem dX2_silenced_0 : decode cX2_silenced 0 = .ok (.aload_n 0, 1) := by decide +kernel
theorem dX2_silenced_1 : decode cX2_silenced 1 = .ok (.getfield 19, 3) := by decide +kernel
theorem dX2_silenced_4 : decode cX2_silenced 4 = .ok (.getfield 148, 3) := by decide +kernel
theorem dX2_silenced_7 : decode cX2_silenced 7 = .ok (.ireturn, 1) := by decide +kernel
set_option maxRecDepth 20000 in
theorem ggX2_fablesWithMoral_X2_needMoral : GoodIn wsX2_fablesWithMoral wsX2_needMoral := goodIn_ca (goodIn_r _ [5, 6, 7] (by decide +kernel) (by decide +kernel)) (goodIn_sub (fun _ h => List.mem_cons_of_mem _ (List.mem_append_right _ h)) (by decide +kernel))
set_option maxRecDepth 20000 in
theorem gX2_fablesWithMoral_X2_needMoral : GoodIn wsX2_fablesWithMoral (va_wsS RX2 30 yX2_needMoral wsX2_needMoral) := goodIn_app (goodIn_of _ (by decide +kernel)) ggX2_fablesWithMoral_X2_needMoral
set_option maxRecDepth 20000 in
theorem ggX2_fablesWithMoral_X0_withMoral : GoodIn wsX2_fablesWithMoral wsX0_withMoral := goodIn_r _ [12, 13, 14, 29, 30, 31, 32, 33, 34, 35] (by decide +kernel) (by decide +kernel)
set_option maxRecDepth 20000 in
theorem gX2_fablesWithMoral_X0_withMoral : GoodIn wsX2_fablesWithMoral (wsV RX2 151 RX0 yX0_withMoral wsX0_withMoral) := goodIn_app (goodIn_of _ (by decide +kernel)) ggX2_fablesWithMoral_X0_withMoral
set_option maxRecDepth 20000 in
theorem ggX2_fablesWithMoral_X2_size : GoodIn wsX2_fablesWithMoral wsX2_size := goodIn_r _ [17, 18, 19, 20, 21, 22, 23, 24] (by decide +kernel) (by decide +kernel)
set_option maxRecDepth 20000 in
theorem gX2_fablesWithMoral_X2_size : GoodIn wsX2_fablesWithMoral (va_wsS RX2 70 yX2_size wsX2_size) := goodIn_app (goodIn_of _ (by decide +kernel)) ggX2_fablesWithMoral_X2_size
theorem dX2_fablesWithMoral_0 : decode cX2_fablesWithMoral 0 = .ok (.iload_n 1, 1) := by decide +kernel
theorem dX2_fablesWithMoral_1 : decode cX2_fablesWithMoral 1 = .ok (.invokestatic 30, 3) := by decide +kernel
theorem dX2_fablesWithMoral_4 : decode cX2_fablesWithMoral 4 = .ok (.aload_n 0, 1) := by decide +kernel
theorem dX2_fablesWithMoral_5 : decode cX2_fablesWithMoral 5 = .ok (.getfield 10, 3) := by decide +kernel
theorem dX2_fablesWithMoral_8 : decode cX2_fablesWithMoral 8 = .ok (.iload_n 1, 1) := by decide +kernel
theorem dX2_fablesWithMoral_9 : decode cX2_fablesWithMoral 9 = .ok (.invokevirtual 151, 3) := by decide +kernel
theorem dX2_fablesWithMoral_12 : decode cX2_fablesWithMoral 12 = .ok (.invokestatic 70, 3) := by decide +kernel
theorem dX2_fablesWithMoral_15 : decode cX2_fablesWithMoral 15 = .ok (.ireturn, 1) := by decide +kernel
set_option maxRecDepth 20000 in
theorem ggX2_fablesWithBeast_X2_needBeast : GoodIn wsX2_fablesWithBeast wsX2_needBeast := goodIn_ca (goodIn_r _ [5, 6, 7] (by decide +kernel) (by decide +kernel)) (goodIn_sub (fun _ h => List.mem_cons_of_mem _ (List.mem_append_right _ h)) (by decide +kernel))
set_option maxRecDepth 20000 in
theorem gX2_fablesWithBeast_X2_needBeast : GoodIn wsX2_fablesWithBeast (va_wsS RX2 34 yX2_needBeast wsX2_needBeast) := goodIn_app (goodIn_of _ (by decide +kernel)) ggX2_fablesWithBeast_X2_needBeast
set_option maxRecDepth 20000 in
theorem ggX2_fablesWithBeast_X0_withBeast : GoodIn wsX2_fablesWithBeast wsX0_withBeast := goodIn_r _ [12, 13, 14, 15, 4, 16, 31, 32, 33, 34, 35, 36, 37] (by decide +kernel) (by decide +kernel)
set_option maxRecDepth 20000 in
theorem gX2_fablesWithBeast_X0_withBeast : GoodIn wsX2_fablesWithBeast (wsV RX2 154 RX0 yX0_withBeast wsX0_withBeast) := goodIn_app (goodIn_of _ (by decide +kernel)) ggX2_fablesWithBeast_X0_withBeast
set_option maxRecDepth 20000 in
theorem ggX2_fablesWithBeast_X2_size : GoodIn wsX2_fablesWithBeast wsX2_size := goodIn_r _ [19, 20, 21, 22, 23, 24, 25, 26] (by decide +kernel) (by decide +kernel)
set_option maxRecDepth 20000 in
theorem gX2_fablesWithBeast_X2_size : GoodIn wsX2_fablesWithBeast (va_wsS RX2 70 yX2_size wsX2_size) := goodIn_app (goodIn_of _ (by decide +kernel)) ggX2_fablesWithBeast_X2_size
theorem dX2_fablesWithBeast_0 : decode cX2_fablesWithBeast 0 = .ok (.iload_n 1, 1) := by decide +kernel
theorem dX2_fablesWithBeast_1 : decode cX2_fablesWithBeast 1 = .ok (.invokestatic 34, 3) := by decide +kernel
theorem dX2_fablesWithBeast_4 : decode cX2_fablesWithBeast 4 = .ok (.aload_n 0, 1) := by decide +kernel
theorem dX2_fablesWithBeast_5 : decode cX2_fablesWithBeast 5 = .ok (.getfield 10, 3) := by decide +kernel
theorem dX2_fablesWithBeast_8 : decode cX2_fablesWithBeast 8 = .ok (.iload_n 1, 1) := by decide +kernel
theorem dX2_fablesWithBeast_9 : decode cX2_fablesWithBeast 9 = .ok (.invokevirtual 154, 3) := by decide +kernel
theorem dX2_fablesWithBeast_12 : decode cX2_fablesWithBeast 12 = .ok (.invokestatic 70, 3) := by decide +kernel
theorem dX2_fablesWithBeast_15 : decode cX2_fablesWithBeast 15 = .ok (.ireturn, 1) := by decide +kernel
set_option maxRecDepth 20000 in
theorem ggX2_favouriteMoral_X0_withMoral : GoodIn wsX2_favouriteMoral wsX0_withMoral := goodIn_r _ [7, 8, 9, 30, 31, 32, 33, 34, 35, 36] (by decide +kernel) (by decide +kernel)
set_option maxRecDepth 20000 in
theorem gX2_favouriteMoral_X0_withMoral : GoodIn wsX2_favouriteMoral (wsV RX2 151 RX0 yX0_withMoral wsX0_withMoral) := goodIn_app (goodIn_of _ (by decide +kernel)) ggX2_favouriteMoral_X0_withMoral
set_option maxRecDepth 20000 in
theorem ggX2_favouriteMoral_X1_count : GoodIn wsX2_favouriteMoral wsX1_count := goodIn_r _ [14, 15, 16, 17, 18, 19, 20, 21, 22, 23, 24, 25, 37, 38, 39, 40, 41, 42, 43] (by decide +kernel) (by decide +kernel)
set_option maxRecDepth 20000 in
theorem gX2_favouriteMoral_X1_count : GoodIn wsX2_favouriteMoral (wsV RX2 114 RX1 yX1_count wsX1_count) := goodIn_app (goodIn_of _ (by decide +kernel)) ggX2_favouriteMoral_X1_count
theorem dX2_favouriteMoral_0 : decode cX2_favouriteMoral 0 = .ok (.iconst (-1), 1) := by decide +kernel
theorem dX2_favouriteMoral_1 : decode cX2_favouriteMoral 1 = .ok (.istore_n 1, 1) := by decide +kernel
theorem dX2_favouriteMoral_2 : decode cX2_favouriteMoral 2 = .ok (.iconst 0, 1) := by decide +kernel
theorem dX2_favouriteMoral_3 : decode cX2_favouriteMoral 3 = .ok (.istore_n 2, 1) := by decide +kernel
theorem dX2_favouriteMoral_4 : decode cX2_favouriteMoral 4 = .ok (.iconst 0, 1) := by decide +kernel
theorem dX2_favouriteMoral_5 : decode cX2_favouriteMoral 5 = .ok (.istore_n 3, 1) := by decide +kernel
theorem dX2_favouriteMoral_6 : decode cX2_favouriteMoral 6 = .ok (.iload_n 3, 1) := by decide +kernel
theorem dX2_favouriteMoral_7 : decode cX2_favouriteMoral 7 = .ok (.bipush 10, 2) := by decide +kernel
theorem dX2_favouriteMoral_9 : decode cX2_favouriteMoral 9 = .ok (.if_icmp .ge 37, 3) := by decide +kernel
theorem dX2_favouriteMoral_12 : decode cX2_favouriteMoral 12 = .ok (.aload_n 0, 1) := by decide +kernel
theorem dX2_favouriteMoral_13 : decode cX2_favouriteMoral 13 = .ok (.getfield 19, 3) := by decide +kernel
theorem dX2_favouriteMoral_16 : decode cX2_favouriteMoral 16 = .ok (.aload_n 0, 1) := by decide +kernel
theorem dX2_favouriteMoral_17 : decode cX2_favouriteMoral 17 = .ok (.getfield 10, 3) := by decide +kernel
theorem dX2_favouriteMoral_20 : decode cX2_favouriteMoral 20 = .ok (.iload_n 3, 1) := by decide +kernel
theorem dX2_favouriteMoral_21 : decode cX2_favouriteMoral 21 = .ok (.invokevirtual 151, 3) := by decide +kernel
theorem dX2_favouriteMoral_24 : decode cX2_favouriteMoral 24 = .ok (.invokevirtual 114, 3) := by decide +kernel
theorem dX2_favouriteMoral_27 : decode cX2_favouriteMoral 27 = .ok (.istore 4, 2) := by decide +kernel
theorem dX2_favouriteMoral_29 : decode cX2_favouriteMoral 29 = .ok (.iload 4, 2) := by decide +kernel
theorem dX2_favouriteMoral_31 : decode cX2_favouriteMoral 31 = .ok (.iload_n 2, 1) := by decide +kernel
theorem dX2_favouriteMoral_32 : decode cX2_favouriteMoral 32 = .ok (.if_icmp .le 8, 3) := by decide +kernel
theorem dX2_favouriteMoral_35 : decode cX2_favouriteMoral 35 = .ok (.iload 4, 2) := by decide +kernel
theorem dX2_favouriteMoral_37 : decode cX2_favouriteMoral 37 = .ok (.istore_n 2, 1) := by decide +kernel
theorem dX2_favouriteMoral_38 : decode cX2_favouriteMoral 38 = .ok (.iload_n 3, 1) := by decide +kernel
theorem dX2_favouriteMoral_39 : decode cX2_favouriteMoral 39 = .ok (.istore_n 1, 1) := by decide +kernel
theorem dX2_favouriteMoral_40 : decode cX2_favouriteMoral 40 = .ok (.iinc 3 1, 3) := by decide +kernel
theorem dX2_favouriteMoral_43 : decode cX2_favouriteMoral 43 = .ok (.goto (-37), 3) := by decide +kernel
theorem dX2_favouriteMoral_46 : decode cX2_favouriteMoral 46 = .ok (.iload_n 1, 1) := by decide +kernel
theorem dX2_favouriteMoral_47 : decode cX2_favouriteMoral 47 = .ok (.ireturn, 1) := by decide +kernel
set_option maxRecDepth 20000 in
theorem ggX2_favouriteBeast_X0_withBeast : GoodIn wsX2_favouriteBeast wsX0_withBeast := goodIn_r _ [7, 8, 9, 10, 11, 12, 32, 33, 34, 35, 36, 37, 38] (by decide +kernel) (by decide +kernel)
set_option maxRecDepth 20000 in
theorem gX2_favouriteBeast_X0_withBeast : GoodIn wsX2_favouriteBeast (wsV RX2 154 RX0 yX0_withBeast wsX0_withBeast) := goodIn_app (goodIn_of _ (by decide +kernel)) ggX2_favouriteBeast_X0_withBeast
set_option maxRecDepth 20000 in
theorem ggX2_favouriteBeast_X1_count : GoodIn wsX2_favouriteBeast wsX1_count := goodIn_r _ [17, 18, 19, 11, 20, 21, 22, 23, 24, 25, 26, 27, 39, 40, 41, 42, 43, 44, 45] (by decide +kernel) (by decide +kernel)
set_option maxRecDepth 20000 in
theorem gX2_favouriteBeast_X1_count : GoodIn wsX2_favouriteBeast (wsV RX2 114 RX1 yX1_count wsX1_count) := goodIn_app (goodIn_of _ (by decide +kernel)) ggX2_favouriteBeast_X1_count
theorem dX2_favouriteBeast_0 : decode cX2_favouriteBeast 0 = .ok (.iconst (-1), 1) := by decide +kernel
theorem dX2_favouriteBeast_1 : decode cX2_favouriteBeast 1 = .ok (.istore_n 1, 1) := by decide +kernel
theorem dX2_favouriteBeast_2 : decode cX2_favouriteBeast 2 = .ok (.iconst 0, 1) := by decide +kernel
theorem dX2_favouriteBeast_3 : decode cX2_favouriteBeast 3 = .ok (.istore_n 2, 1) := by decide +kernel
theorem dX2_favouriteBeast_4 : decode cX2_favouriteBeast 4 = .ok (.iconst 0, 1) := by decide +kernel
theorem dX2_favouriteBeast_5 : decode cX2_favouriteBeast 5 = .ok (.istore_n 3, 1) := by decide +kernel
theorem dX2_favouriteBeast_6 : decode cX2_favouriteBeast 6 = .ok (.iload_n 3, 1) := by decide +kernel
theorem dX2_favouriteBeast_7 : decode cX2_favouriteBeast 7 = .ok (.bipush 12, 2) := by decide +kernel
theorem dX2_favouriteBeast_9 : decode cX2_favouriteBeast 9 = .ok (.if_icmp .ge 37, 3) := by decide +kernel
theorem dX2_favouriteBeast_12 : decode cX2_favouriteBeast 12 = .ok (.aload_n 0, 1) := by decide +kernel
theorem dX2_favouriteBeast_13 : decode cX2_favouriteBeast 13 = .ok (.getfield 19, 3) := by decide +kernel
theorem dX2_favouriteBeast_16 : decode cX2_favouriteBeast 16 = .ok (.aload_n 0, 1) := by decide +kernel
theorem dX2_favouriteBeast_17 : decode cX2_favouriteBeast 17 = .ok (.getfield 10, 3) := by decide +kernel
theorem dX2_favouriteBeast_20 : decode cX2_favouriteBeast 20 = .ok (.iload_n 3, 1) := by decide +kernel
theorem dX2_favouriteBeast_21 : decode cX2_favouriteBeast 21 = .ok (.invokevirtual 154, 3) := by decide +kernel
theorem dX2_favouriteBeast_24 : decode cX2_favouriteBeast 24 = .ok (.invokevirtual 114, 3) := by decide +kernel
theorem dX2_favouriteBeast_27 : decode cX2_favouriteBeast 27 = .ok (.istore 4, 2) := by decide +kernel
theorem dX2_favouriteBeast_29 : decode cX2_favouriteBeast 29 = .ok (.iload 4, 2) := by decide +kernel
theorem dX2_favouriteBeast_31 : decode cX2_favouriteBeast 31 = .ok (.iload_n 2, 1) := by decide +kernel
theorem dX2_favouriteBeast_32 : decode cX2_favouriteBeast 32 = .ok (.if_icmp .le 8, 3) := by decide +kernel
theorem dX2_favouriteBeast_35 : decode cX2_favouriteBeast 35 = .ok (.iload 4, 2) := by decide +kernel
theorem dX2_favouriteBeast_37 : decode cX2_favouriteBeast 37 = .ok (.istore_n 2, 1) := by decide +kernel
theorem dX2_favouriteBeast_38 : decode cX2_favouriteBeast 38 = .ok (.iload_n 3, 1) := by decide +kernel
theorem dX2_favouriteBeast_39 : decode cX2_favouriteBeast 39 = .ok (.istore_n 1, 1) := by decide +kernel
theorem dX2_favouriteBeast_40 : decode cX2_favouriteBeast 40 = .ok (.iinc 3 1, 3) := by decide +kernel
theorem dX2_favouriteBeast_43 : decode cX2_favouriteBeast 43 = .ok (.goto (-37), 3) := by decide +kernel
theorem dX2_favouriteBeast_46 : decode cX2_favouriteBeast 46 = .ok (.iload_n 1, 1) := by decide +kernel
theorem dX2_favouriteBeast_47 : decode cX2_favouriteBeast 47 = .ok (.ireturn, 1) := by decide +kernel
set_option maxRecDepth 20000 in
theorem ggX2_seasonsUntil_X2_needFable : GoodIn wsX2_seasonsUntil wsX2_needFable := goodIn_ca (goodIn_r _ [9, 10, 11, 4, 12, 74, 75, 76, 77, 85, 86, 87, 88, 89, 90, 91] (by decide +kernel) (by decide +kernel)) (goodIn_sub (fun _ h => List.mem_cons_of_mem _ (List.mem_append_right _ h)) (by decide +kernel))
set_option maxRecDepth 20000 in
theorem gX2_seasonsUntil_X2_needFable : GoodIn wsX2_seasonsUntil (wsV RX2 47 RX2 yX2_needFable wsX2_needFable) := goodIn_app (goodIn_of _ (by decide +kernel)) ggX2_seasonsUntil_X2_needFable
set_option maxRecDepth 20000 in
theorem ggX2_seasonsUntil_X2_needValley : GoodIn wsX2_seasonsUntil wsX2_needValley := goodIn_ca (goodIn_r _ [15, 10, 11] (by decide +kernel) (by decide +kernel)) (goodIn_sub (fun _ h => List.mem_cons_of_mem _ (List.mem_append_right _ h)) (by decide +kernel))
set_option maxRecDepth 20000 in
theorem gX2_seasonsUntil_X2_needValley : GoodIn wsX2_seasonsUntil (va_wsS RX2 37 yX2_needValley wsX2_needValley) := goodIn_app (goodIn_of _ (by decide +kernel)) ggX2_seasonsUntil_X2_needValley
set_option maxRecDepth 20000 in
theorem ggX2_seasonsUntil_X1_become : GoodIn wsX2_seasonsUntil wsX1_become := goodIn_r _ [20, 21, 22, 23, 24, 25, 78, 79, 80, 81, 82, 83, 84] (by decide +kernel) (by decide +kernel)
set_option maxRecDepth 20000 in
theorem gX2_seasonsUntil_X1_become : GoodIn wsX2_seasonsUntil (wsV RX2 157 RX1 yX1_become wsX1_become) := goodIn_app (goodIn_of _ (by decide +kernel)) ggX2_seasonsUntil_X1_become
set_option maxRecDepth 20000 in
theorem ggX2_seasonsUntil_X2_has : GoodIn wsX2_seasonsUntil wsX2_has := goodIn_r _ [28] (by decide +kernel) (by decide +kernel)
set_option maxRecDepth 20000 in
theorem gX2_seasonsUntil_X2_has : GoodIn wsX2_seasonsUntil (va_wsS RX2 54 yX2_has wsX2_has) := goodIn_app (goodIn_of _ (by decide +kernel)) ggX2_seasonsUntil_X2_has
set_option maxRecDepth 20000 in
theorem ggX2_seasonsUntil_X1_live : GoodIn wsX2_seasonsUntil wsX1_live := goodIn_r _ [32, 33, 34, 35, 36, 19, 37, 38, 39, 40, 41, 42, 22, 43, 23, 44, 27, 8, 28, 45, 46, 47, 48, 49, 24, 25, 50, 51, 52, 53, 54, 55, 56, 57, 58, 59, 60, 61, 62, 63, 64, 65, 66, 21, 67, 68, 69, 70, 71, 72, 73, 78, 79, 80, 81, 82, 83, 84, 85, 86, 87, 88, 89, 90, 91] (by decide +kernel) (by decide +kernel)
set_option maxRecDepth 20000 in
theorem gX2_seasonsUntil_X1_live : GoodIn wsX2_seasonsUntil (wsV RX2 122 RX1 yX1_live wsX1_live) := goodIn_app (goodIn_of _ (by decide +kernel)) ggX2_seasonsUntil_X1_live
theorem dX2_seasonsUntil_0 : decode cX2_seasonsUntil 0 = .ok (.aload_n 0, 1) := by decide +kernel
theorem dX2_seasonsUntil_1 : decode cX2_seasonsUntil 1 = .ok (.iload_n 1, 1) := by decide +kernel
theorem dX2_seasonsUntil_2 : decode cX2_seasonsUntil 2 = .ok (.invokevirtual 47, 3) := by decide +kernel
theorem dX2_seasonsUntil_5 : decode cX2_seasonsUntil 5 = .ok (.iload_n 2, 1) := by decide +kernel
theorem dX2_seasonsUntil_6 : decode cX2_seasonsUntil 6 = .ok (.invokestatic 37, 3) := by decide +kernel
theorem dX2_seasonsUntil_9 : decode cX2_seasonsUntil 9 = .ok (.aload_n 0, 1) := by decide +kernel
theorem dX2_seasonsUntil_10 : decode cX2_seasonsUntil 10 = .ok (.getfield 23, 3) := by decide +kernel
theorem dX2_seasonsUntil_13 : decode cX2_seasonsUntil 13 = .ok (.aload_n 0, 1) := by decide +kernel
theorem dX2_seasonsUntil_14 : decode cX2_seasonsUntil 14 = .ok (.getfield 19, 3) := by decide +kernel
theorem dX2_seasonsUntil_17 : decode cX2_seasonsUntil 17 = .ok (.invokevirtual 157, 3) := by decide +kernel
theorem dX2_seasonsUntil_20 : decode cX2_seasonsUntil 20 = .ok (.iconst 0, 1) := by decide +kernel
theorem dX2_seasonsUntil_21 : decode cX2_seasonsUntil 21 = .ok (.istore_n 3, 1) := by decide +kernel
theorem dX2_seasonsUntil_22 : decode cX2_seasonsUntil 22 = .ok (.iload_n 3, 1) := by decide +kernel
theorem dX2_seasonsUntil_23 : decode cX2_seasonsUntil 23 = .ok (.bipush 40, 2) := by decide +kernel
theorem dX2_seasonsUntil_25 : decode cX2_seasonsUntil 25 = .ok (.if_icmp .ge 39, 3) := by decide +kernel
theorem dX2_seasonsUntil_28 : decode cX2_seasonsUntil 28 = .ok (.aload_n 0, 1) := by decide +kernel
theorem dX2_seasonsUntil_29 : decode cX2_seasonsUntil 29 = .ok (.getfield 23, 3) := by decide +kernel
theorem dX2_seasonsUntil_32 : decode cX2_seasonsUntil 32 = .ok (.getfield 103, 3) := by decide +kernel
theorem dX2_seasonsUntil_35 : decode cX2_seasonsUntil 35 = .ok (.iload_n 2, 1) := by decide +kernel
theorem dX2_seasonsUntil_36 : decode cX2_seasonsUntil 36 = .ok (.iaload, 1) := by decide +kernel
theorem dX2_seasonsUntil_37 : decode cX2_seasonsUntil 37 = .ok (.iload_n 1, 1) := by decide +kernel
theorem dX2_seasonsUntil_38 : decode cX2_seasonsUntil 38 = .ok (.invokestatic 54, 3) := by decide +kernel
theorem dX2_seasonsUntil_41 : decode cX2_seasonsUntil 41 = .ok (.ifCond .eq 5, 3) := by decide +kernel
theorem dX2_seasonsUntil_44 : decode cX2_seasonsUntil 44 = .ok (.iload_n 3, 1) := by decide +kernel
theorem dX2_seasonsUntil_45 : decode cX2_seasonsUntil 45 = .ok (.ireturn, 1) := by decide +kernel
theorem dX2_seasonsUntil_46 : decode cX2_seasonsUntil 46 = .ok (.aload_n 0, 1) := by decide +kernel
theorem dX2_seasonsUntil_47 : decode cX2_seasonsUntil 47 = .ok (.getfield 23, 3) := by decide +kernel
theorem dX2_seasonsUntil_50 : decode cX2_seasonsUntil 50 = .ok (.aload_n 0, 1) := by decide +kernel
theorem dX2_seasonsUntil_51 : decode cX2_seasonsUntil 51 = .ok (.getfield 10, 3) := by decide +kernel
theorem dX2_seasonsUntil_54 : decode cX2_seasonsUntil 54 = .ok (.iconst 1, 1) := by decide +kernel
theorem dX2_seasonsUntil_55 : decode cX2_seasonsUntil 55 = .ok (.invokevirtual 122, 3) := by decide +kernel
theorem dX2_seasonsUntil_58 : decode cX2_seasonsUntil 58 = .ok (.iinc 3 1, 3) := by decide +kernel
theorem dX2_seasonsUntil_61 : decode cX2_seasonsUntil 61 = .ok (.goto (-39), 3) := by decide +kernel
theorem dX2_seasonsUntil_64 : decode cX2_seasonsUntil 64 = .ok (.aload_n 0, 1) := by decide +kernel
theorem dX2_seasonsUntil_65 : decode cX2_seasonsUntil 65 = .ok (.getfield 23, 3) := by decide +kernel
theorem dX2_seasonsUntil_68 : decode cX2_seasonsUntil 68 = .ok (.getfield 103, 3) := by decide +kernel
theorem dX2_seasonsUntil_71 : decode cX2_seasonsUntil 71 = .ok (.iload_n 2, 1) := by decide +kernel
theorem dX2_seasonsUntil_72 : decode cX2_seasonsUntil 72 = .ok (.iaload, 1) := by decide +kernel
theorem dX2_seasonsUntil_73 : decode cX2_seasonsUntil 73 = .ok (.iload_n 1, 1) := by decide +kernel
theorem dX2_seasonsUntil_74 : decode cX2_seasonsUntil 74 = .ok (.invokestatic 54, 3) := by decide +kernel
theorem dX2_seasonsUntil_77 : decode cX2_seasonsUntil 77 = .ok (.ifCond .eq 8, 3) := by decide +kernel
theorem dX2_seasonsUntil_80 : decode cX2_seasonsUntil 80 = .ok (.bipush 40, 2) := by decide +kernel
theorem dX2_seasonsUntil_82 : decode cX2_seasonsUntil 82 = .ok (.goto 4, 3) := by decide +kernel
theorem dX2_seasonsUntil_85 : decode cX2_seasonsUntil 85 = .ok (.iconst (-1), 1) := by decide +kernel
theorem dX2_seasonsUntil_86 : decode cX2_seasonsUntil 86 = .ok (.ireturn, 1) := by decide +kernel
set_option maxRecDepth 20000 in
theorem ggX2_tellingsAfter_X2_needSeasons : GoodIn wsX2_tellingsAfter wsX2_needSeasons := goodIn_ca (goodIn_r _ [6, 7, 8] (by decide +kernel) (by decide +kernel)) (goodIn_sub (fun _ h => List.mem_cons_of_mem _ (List.mem_append_right _ h)) (by decide +kernel))
set_option maxRecDepth 20000 in
theorem gX2_tellingsAfter_X2_needSeasons : GoodIn wsX2_tellingsAfter (va_wsS RX2 119 yX2_needSeasons wsX2_needSeasons) := goodIn_app (goodIn_of _ (by decide +kernel)) ggX2_tellingsAfter_X2_needSeasons
set_option maxRecDepth 20000 in
theorem ggX2_tellingsAfter_X1_become : GoodIn wsX2_tellingsAfter wsX1_become := goodIn_r _ [13, 14, 15, 16, 17, 18, 85, 86, 87, 88, 89, 90, 91] (by decide +kernel) (by decide +kernel)
set_option maxRecDepth 20000 in
theorem gX2_tellingsAfter_X1_become : GoodIn wsX2_tellingsAfter (wsV RX2 157 RX1 yX1_become wsX1_become) := goodIn_app (goodIn_of _ (by decide +kernel)) ggX2_tellingsAfter_X1_become
set_option maxRecDepth 20000 in
theorem ggX2_tellingsAfter_X2_tellingsOfTrial : GoodIn wsX2_tellingsAfter wsX2_tellingsOfTrial := goodIn_r _ [22, 1, 23, 24, 25, 26, 12, 27, 28, 29, 30, 31, 32, 33, 34, 35, 36, 37, 15, 38, 16, 39, 40, 5, 41, 42, 43, 44, 45, 46, 17, 18, 47, 48, 49, 50, 51, 52, 53, 54, 55, 56, 57, 58, 59, 60, 61, 62, 63, 14, 64, 65, 66, 67, 68, 69, 70, 71, 72, 73, 74, 75, 76, 77, 78, 79, 80, 81, 82, 83, 84, 85, 86, 87, 88, 89, 90, 91, 92, 93, 94, 95, 96, 97, 98] (by decide +kernel) (by decide +kernel)
set_option maxRecDepth 20000 in
theorem gX2_tellingsAfter_X2_tellingsOfTrial : GoodIn wsX2_tellingsAfter (wsV RX2 161 RX2 yX2_tellingsOfTrial wsX2_tellingsOfTrial) := goodIn_app (goodIn_of _ (by decide +kernel)) ggX2_tellingsAfter_X2_tellingsOfTrial
theorem dX2_tellingsAfter_0 : decode cX2_tellingsAfter 0 = .ok (.iload_n 1, 1) := by decide +kernel
theorem dX2_tellingsAfter_1 : decode cX2_tellingsAfter 1 = .ok (.bipush 40, 2) := by decide +kernel
theorem dX2_tellingsAfter_3 : decode cX2_tellingsAfter 3 = .ok (.invokestatic 119, 3) := by decide +kernel
theorem dX2_tellingsAfter_6 : decode cX2_tellingsAfter 6 = .ok (.aload_n 0, 1) := by decide +kernel
theorem dX2_tellingsAfter_7 : decode cX2_tellingsAfter 7 = .ok (.getfield 23, 3) := by decide +kernel
theorem dX2_tellingsAfter_10 : decode cX2_tellingsAfter 10 = .ok (.aload_n 0, 1) := by decide +kernel
theorem dX2_tellingsAfter_11 : decode cX2_tellingsAfter 11 = .ok (.getfield 19, 3) := by decide +kernel
theorem dX2_tellingsAfter_14 : decode cX2_tellingsAfter 14 = .ok (.invokevirtual 157, 3) := by decide +kernel
theorem dX2_tellingsAfter_17 : decode cX2_tellingsAfter 17 = .ok (.aload_n 0, 1) := by decide +kernel
theorem dX2_tellingsAfter_18 : decode cX2_tellingsAfter 18 = .ok (.iload_n 1, 1) := by decide +kernel
theorem dX2_tellingsAfter_19 : decode cX2_tellingsAfter 19 = .ok (.invokevirtual 161, 3) := by decide +kernel
theorem dX2_tellingsAfter_22 : decode cX2_tellingsAfter 22 = .ok (.ireturn, 1) := by decide +kernel
set_option maxRecDepth 20000 in
theorem ggX2_bestPass_X2_needSeasons : GoodIn wsX2_bestPass wsX2_needSeasons := goodIn_ca (goodIn_r _ [7, 8, 9] (by decide +kernel) (by decide +kernel)) (goodIn_sub (fun _ h => List.mem_cons_of_mem _ (List.mem_append_right _ h)) (by decide +kernel))
set_option maxRecDepth 20000 in
theorem gX2_bestPass_X2_needSeasons : GoodIn wsX2_bestPass (va_wsS RX2 119 yX2_needSeasons wsX2_needSeasons) := goodIn_app (goodIn_of _ (by decide +kernel)) ggX2_bestPass_X2_needSeasons
set_option maxRecDepth 20000 in
theorem ggX2_bestPass_X1_become : GoodIn wsX2_bestPass wsX1_become := goodIn_r _ [14, 15, 16, 17, 18, 19, 97, 98, 99, 100, 101, 102, 103] (by decide +kernel) (by decide +kernel)
set_option maxRecDepth 20000 in
theorem gX2_bestPass_X1_become : GoodIn wsX2_bestPass (wsV RX2 157 RX1 yX1_become wsX1_become) := goodIn_app (goodIn_of _ (by decide +kernel)) ggX2_bestPass_X1_become
set_option maxRecDepth 20000 in
theorem ggX2_bestPass_X2_tellingsOfTrial : GoodIn wsX2_bestPass wsX2_tellingsOfTrial := goodIn_r _ [23, 1, 24, 25, 26, 27, 13, 28, 29, 30, 31, 32, 33, 34, 35, 36, 37, 38, 16, 39, 17, 40, 41, 6, 42, 43, 44, 45, 46, 47, 18, 19, 48, 49, 50, 51, 52, 53, 54, 55, 56, 57, 58, 59, 60, 61, 62, 63, 64, 15, 65, 66, 67, 68, 69, 70, 71, 72, 73, 74, 75, 76, 77, 78, 79, 80, 81, 93, 94, 95, 96, 97, 98, 99, 100, 101, 102, 103, 104, 105, 106, 107, 108, 109, 110] (by decide +kernel) (by decide +kernel)
set_option maxRecDepth 20000 in
theorem gX2_bestPass_X2_tellingsOfTrial : GoodIn wsX2_bestPass (wsV RX2 161 RX2 yX2_tellingsOfTrial wsX2_tellingsOfTrial) := goodIn_app (goodIn_of _ (by decide +kernel)) ggX2_bestPass_X2_tellingsOfTrial
set_option maxRecDepth 20000 in
theorem ggX2_bestPass_X2_has : GoodIn wsX2_bestPass wsX2_has := goodIn_r _ [42] (by decide +kernel) (by decide +kernel)
set_option maxRecDepth 20000 in
theorem gX2_bestPass_X2_has : GoodIn wsX2_bestPass (va_wsS RX2 54 yX2_has wsX2_has) := goodIn_app (goodIn_of _ (by decide +kernel)) ggX2_bestPass_X2_has
set_option maxRecDepth 20000 in
theorem ggX2_bestPass_X2_tellingsWithPass : GoodIn wsX2_bestPass wsX2_tellingsWithPass := goodIn_r _ [86, 1, 2, 10, 11, 12, 13, 14, 15, 16, 17, 18, 19, 87, 88, 89, 90, 91, 6, 92, 20, 21, 22, 23, 24, 25, 26, 27, 28, 29, 30, 31, 32, 33, 34, 35, 36, 37, 38, 39, 40, 41, 42, 43, 44, 45, 46, 47, 48, 49, 50, 51, 52, 53, 54, 55, 56, 57, 58, 59, 60, 61, 62, 63, 64, 65, 66, 67, 68, 69, 70, 71, 72, 73, 74, 75, 76, 77, 78, 79, 80, 81, 93, 94, 95, 96, 97, 98, 99, 100, 101, 102, 103, 104, 105, 106, 107, 108, 109, 110] (by decide +kernel) (by decide +kernel)
set_option maxRecDepth 20000 in
theorem gX2_bestPass_X2_tellingsWithPass : GoodIn wsX2_bestPass (wsV RX2 164 RX2 yX2_tellingsWithPass wsX2_tellingsWithPass) := goodIn_app (goodIn_of _ (by decide +kernel)) ggX2_bestPass_X2_tellingsWithPass
theorem dX2_bestPass_0 : decode cX2_bestPass 0 = .ok (.iload_n 1, 1) := by decide +kernel
theorem dX2_bestPass_1 : decode cX2_bestPass 1 = .ok (.bipush 20, 2) := by decide +kernel
theorem dX2_bestPass_3 : decode cX2_bestPass 3 = .ok (.invokestatic 119, 3) := by decide +kernel
theorem dX2_bestPass_6 : decode cX2_bestPass 6 = .ok (.aload_n 0, 1) := by decide +kernel
theorem dX2_bestPass_7 : decode cX2_bestPass 7 = .ok (.getfield 23, 3) := by decide +kernel
theorem dX2_bestPass_10 : decode cX2_bestPass 10 = .ok (.aload_n 0, 1) := by decide +kernel
theorem dX2_bestPass_11 : decode cX2_bestPass 11 = .ok (.getfield 19, 3) := by decide +kernel
theorem dX2_bestPass_14 : decode cX2_bestPass 14 = .ok (.invokevirtual 157, 3) := by decide +kernel
theorem dX2_bestPass_17 : decode cX2_bestPass 17 = .ok (.aload_n 0, 1) := by decide +kernel
theorem dX2_bestPass_18 : decode cX2_bestPass 18 = .ok (.iload_n 1, 1) := by decide +kernel
theorem dX2_bestPass_19 : decode cX2_bestPass 19 = .ok (.invokevirtual 161, 3) := by decide +kernel
theorem dX2_bestPass_22 : decode cX2_bestPass 22 = .ok (.istore_n 2, 1) := by decide +kernel
theorem dX2_bestPass_23 : decode cX2_bestPass 23 = .ok (.iconst (-1), 1) := by decide +kernel
theorem dX2_bestPass_24 : decode cX2_bestPass 24 = .ok (.istore_n 3, 1) := by decide +kernel
theorem dX2_bestPass_25 : decode cX2_bestPass 25 = .ok (.iconst 0, 1) := by decide +kernel
theorem dX2_bestPass_26 : decode cX2_bestPass 26 = .ok (.istore 4, 2) := by decide +kernel
theorem dX2_bestPass_28 : decode cX2_bestPass 28 = .ok (.iload 4, 2) := by decide +kernel
theorem dX2_bestPass_30 : decode cX2_bestPass 30 = .ok (.bipush 6, 2) := by decide +kernel
theorem dX2_bestPass_32 : decode cX2_bestPass 32 = .ok (.if_icmp .ge 79, 3) := by decide +kernel
theorem dX2_bestPass_35 : decode cX2_bestPass 35 = .ok (.iload 4, 2) := by decide +kernel
theorem dX2_bestPass_37 : decode cX2_bestPass 37 = .ok (.iconst 1, 1) := by decide +kernel
theorem dX2_bestPass_38 : decode cX2_bestPass 38 = .ok (.iadd, 1) := by decide +kernel
theorem dX2_bestPass_39 : decode cX2_bestPass 39 = .ok (.istore 5, 2) := by decide +kernel
theorem dX2_bestPass_41 : decode cX2_bestPass 41 = .ok (.iload 5, 2) := by decide +kernel
theorem dX2_bestPass_43 : decode cX2_bestPass 43 = .ok (.bipush 6, 2) := by decide +kernel
theorem dX2_bestPass_45 : decode cX2_bestPass 45 = .ok (.if_icmp .ge 60, 3) := by decide +kernel
theorem dX2_bestPass_48 : decode cX2_bestPass 48 = .ok (.aload_n 0, 1) := by decide +kernel
theorem dX2_bestPass_49 : decode cX2_bestPass 49 = .ok (.getfield 19, 3) := by decide +kernel
theorem dX2_bestPass_52 : decode cX2_bestPass 52 = .ok (.getfield 94, 3) := by decide +kernel
theorem dX2_bestPass_55 : decode cX2_bestPass 55 = .ok (.iload 4, 2) := by decide +kernel
theorem dX2_bestPass_57 : decode cX2_bestPass 57 = .ok (.iaload, 1) := by decide +kernel
theorem dX2_bestPass_58 : decode cX2_bestPass 58 = .ok (.iload 5, 2) := by decide +kernel
theorem dX2_bestPass_60 : decode cX2_bestPass 60 = .ok (.invokestatic 54, 3) := by decide +kernel
theorem dX2_bestPass_63 : decode cX2_bestPass 63 = .ok (.ifCond .eq 7, 3) := by decide +kernel
theorem dX2_bestPass_66 : decode cX2_bestPass 66 = .ok (.iconst 0, 1) := by decide +kernel
theorem dX2_bestPass_67 : decode cX2_bestPass 67 = .ok (.goto 12, 3) := by decide +kernel
theorem dX2_bestPass_70 : decode cX2_bestPass 70 = .ok (.aload_n 0, 1) := by decide +kernel
theorem dX2_bestPass_71 : decode cX2_bestPass 71 = .ok (.iload 4, 2) := by decide +kernel
theorem dX2_bestPass_73 : decode cX2_bestPass 73 = .ok (.iload 5, 2) := by decide +kernel
theorem dX2_bestPass_75 : decode cX2_bestPass 75 = .ok (.iload_n 1, 1) := by decide +kernel
theorem dX2_bestPass_76 : decode cX2_bestPass 76 = .ok (.invokevirtual 164, 3) := by decide +kernel
theorem dX2_bestPass_79 : decode cX2_bestPass 79 = .ok (.istore 6, 2) := by decide +kernel
theorem dX2_bestPass_81 : decode cX2_bestPass 81 = .ok (.iload 6, 2) := by decide +kernel
theorem dX2_bestPass_83 : decode cX2_bestPass 83 = .ok (.iload_n 2, 1) := by decide +kernel
theorem dX2_bestPass_84 : decode cX2_bestPass 84 = .ok (.if_icmp .le 15, 3) := by decide +kernel
theorem dX2_bestPass_87 : decode cX2_bestPass 87 = .ok (.iload 6, 2) := by decide +kernel
theorem dX2_bestPass_89 : decode cX2_bestPass 89 = .ok (.istore_n 2, 1) := by decide +kernel
theorem dX2_bestPass_90 : decode cX2_bestPass 90 = .ok (.bipush 6, 2) := by decide +kernel
theorem dX2_bestPass_92 : decode cX2_bestPass 92 = .ok (.iload 4, 2) := by decide +kernel
theorem dX2_bestPass_94 : decode cX2_bestPass 94 = .ok (.imul, 1) := by decide +kernel
theorem dX2_bestPass_95 : decode cX2_bestPass 95 = .ok (.iload 5, 2) := by decide +kernel
theorem dX2_bestPass_97 : decode cX2_bestPass 97 = .ok (.iadd, 1) := by decide +kernel
theorem dX2_bestPass_98 : decode cX2_bestPass 98 = .ok (.istore_n 3, 1) := by decide +kernel
theorem dX2_bestPass_99 : decode cX2_bestPass 99 = .ok (.iinc 5 1, 3) := by decide +kernel
theorem dX2_bestPass_102 : decode cX2_bestPass 102 = .ok (.goto (-61), 3) := by decide +kernel
theorem dX2_bestPass_105 : decode cX2_bestPass 105 = .ok (.iinc 4 1, 3) := by decide +kernel
theorem dX2_bestPass_108 : decode cX2_bestPass 108 = .ok (.goto (-80), 3) := by decide +kernel
theorem dX2_bestPass_111 : decode cX2_bestPass 111 = .ok (.iload_n 3, 1) := by decide +kernel
theorem dX2_bestPass_112 : decode cX2_bestPass 112 = .ok (.ireturn, 1) := by decide +kernel
set_option maxRecDepth 20000 in
theorem ggX2_meanBeasts_X2_size : GoodIn wsX2_meanBeasts wsX2_size := goodIn_r _ [7, 8, 9, 10, 11, 12, 13, 14] (by decide +kernel) (by decide +kernel)
set_option maxRecDepth 20000 in
theorem gX2_meanBeasts_X2_size : GoodIn wsX2_meanBeasts (va_wsS RX2 70 yX2_size wsX2_size) := goodIn_app (goodIn_of _ (by decide +kernel)) ggX2_meanBeasts_X2_size
theorem dX2_meanBeasts_0 : decode cX2_meanBeasts 0 = .ok (.aload_n 0, 1) := by decide +kernel
theorem dX2_meanBeasts_1 : decode cX2_meanBeasts 1 = .ok (.getfield 10, 3) := by decide +kernel
theorem dX2_meanBeasts_4 : decode cX2_meanBeasts 4 = .ok (.getfield 146, 3) := by decide +kernel
theorem dX2_meanBeasts_7 : decode cX2_meanBeasts 7 = .ok (.ifCond .ne 5, 3) := by decide +kernel
theorem dX2_meanBeasts_10 : decode cX2_meanBeasts 10 = .ok (.dconst 0, 1) := by decide +kernel
theorem dX2_meanBeasts_11 : decode cX2_meanBeasts 11 = .ok (.dreturn, 1) := by decide +kernel
theorem dX2_meanBeasts_12 : decode cX2_meanBeasts 12 = .ok (.iconst 0, 1) := by decide +kernel
theorem dX2_meanBeasts_13 : decode cX2_meanBeasts 13 = .ok (.istore_n 1, 1) := by decide +kernel
theorem dX2_meanBeasts_14 : decode cX2_meanBeasts 14 = .ok (.iconst 0, 1) := by decide +kernel
theorem dX2_meanBeasts_15 : decode cX2_meanBeasts 15 = .ok (.istore_n 2, 1) := by decide +kernel
theorem dX2_meanBeasts_16 : decode cX2_meanBeasts 16 = .ok (.iload_n 2, 1) := by decide +kernel
theorem dX2_meanBeasts_17 : decode cX2_meanBeasts 17 = .ok (.aload_n 0, 1) := by decide +kernel
theorem dX2_meanBeasts_18 : decode cX2_meanBeasts 18 = .ok (.getfield 10, 3) := by decide +kernel
theorem dX2_meanBeasts_21 : decode cX2_meanBeasts 21 = .ok (.getfield 146, 3) := by decide +kernel
theorem dX2_meanBeasts_24 : decode cX2_meanBeasts 24 = .ok (.if_icmp .ge 24, 3) := by decide +kernel
theorem dX2_meanBeasts_27 : decode cX2_meanBeasts 27 = .ok (.iload_n 1, 1) := by decide +kernel
theorem dX2_meanBeasts_28 : decode cX2_meanBeasts 28 = .ok (.aload_n 0, 1) := by decide +kernel
theorem dX2_meanBeasts_29 : decode cX2_meanBeasts 29 = .ok (.getfield 10, 3) := by decide +kernel
theorem dX2_meanBeasts_32 : decode cX2_meanBeasts 32 = .ok (.getfield 50, 3) := by decide +kernel
theorem dX2_meanBeasts_35 : decode cX2_meanBeasts 35 = .ok (.iload_n 2, 1) := by decide +kernel
theorem dX2_meanBeasts_36 : decode cX2_meanBeasts 36 = .ok (.iaload, 1) := by decide +kernel
theorem dX2_meanBeasts_37 : decode cX2_meanBeasts 37 = .ok (.invokestatic 70, 3) := by decide +kernel
theorem dX2_meanBeasts_40 : decode cX2_meanBeasts 40 = .ok (.iadd, 1) := by decide +kernel
theorem dX2_meanBeasts_41 : decode cX2_meanBeasts 41 = .ok (.istore_n 1, 1) := by decide +kernel
theorem dX2_meanBeasts_42 : decode cX2_meanBeasts 42 = .ok (.iinc 2 1, 3) := by decide +kernel
theorem dX2_meanBeasts_45 : decode cX2_meanBeasts 45 = .ok (.goto (-29), 3) := by decide +kernel
theorem dX2_meanBeasts_48 : decode cX2_meanBeasts 48 = .ok (.iload_n 1, 1) := by decide +kernel
theorem dX2_meanBeasts_49 : decode cX2_meanBeasts 49 = .ok (.i2d, 1) := by decide +kernel
theorem dX2_meanBeasts_50 : decode cX2_meanBeasts 50 = .ok (.aload_n 0, 1) := by decide +kernel
theorem dX2_meanBeasts_51 : decode cX2_meanBeasts 51 = .ok (.getfield 10, 3) := by decide +kernel
theorem dX2_meanBeasts_54 : decode cX2_meanBeasts 54 = .ok (.getfield 146, 3) := by decide +kernel
theorem dX2_meanBeasts_57 : decode cX2_meanBeasts 57 = .ok (.i2d, 1) := by decide +kernel
theorem dX2_meanBeasts_58 : decode cX2_meanBeasts 58 = .ok (.ddiv, 1) := by decide +kernel
theorem dX2_meanBeasts_59 : decode cX2_meanBeasts 59 = .ok (.dreturn, 1) := by decide +kernel
set_option maxRecDepth 20000 in
theorem ggX2_digest_X2_fables : GoodIn wsX2_digest wsX2_fables := goodIn_r _ [8, 2, 3, 166, 167, 168, 169, 170, 171, 172, 173, 174, 175, 176] (by decide +kernel) (by decide +kernel)
set_option maxRecDepth 20000 in
theorem gX2_digest_X2_fables : GoodIn wsX2_digest (wsV RX2 170 RX2 yX2_fables wsX2_fables) := goodIn_app (goodIn_of _ (by decide +kernel)) ggX2_digest_X2_fables
set_option maxRecDepth 20000 in
theorem ggX2_digest_X2_mixed : GoodIn wsX2_digest wsX2_mixed := goodIn_r _ [11, 12] (by decide +kernel) (by decide +kernel)
set_option maxRecDepth 20000 in
theorem gX2_digest_X2_mixed : GoodIn wsX2_digest (va_wsS RX2 173 yX2_mixed wsX2_mixed) := goodIn_app (goodIn_of _ (by decide +kernel)) ggX2_digest_X2_mixed
set_option maxRecDepth 20000 in
theorem ggX2_digest_X2_season : GoodIn wsX2_digest wsX2_season := goodIn_r _ [16, 17, 166, 167, 168, 169] (by decide +kernel) (by decide +kernel)
set_option maxRecDepth 20000 in
theorem gX2_digest_X2_season : GoodIn wsX2_digest (wsV RX2 177 RX2 yX2_season wsX2_season) := goodIn_app (goodIn_of _ (by decide +kernel)) ggX2_digest_X2_season
set_option maxRecDepth 20000 in
theorem ggX2_digest_X2_tellings : GoodIn wsX2_digest wsX2_tellings := goodIn_r _ [21, 22, 2, 23, 24, 25, 26, 27, 28, 29, 30, 31, 32, 33, 34, 35, 7, 36, 37, 38, 39, 40, 41, 42, 43, 166, 167, 168, 169, 170, 171, 172, 173, 174, 175, 176, 177, 178, 179, 180, 181, 182, 183] (by decide +kernel) (by decide +kernel)
set_option maxRecDepth 20000 in
theorem gX2_digest_X2_tellings : GoodIn wsX2_digest (wsV RX2 179 RX2 yX2_tellings wsX2_tellings) := goodIn_app (goodIn_of _ (by decide +kernel)) ggX2_digest_X2_tellings
set_option maxRecDepth 20000 in
theorem ggX2_digest_X2_silenced : GoodIn wsX2_digest wsX2_silenced := goodIn_r _ [47, 22, 48, 166, 167, 168, 169, 177, 178, 179, 180, 181, 182, 183] (by decide +kernel) (by decide +kernel)
set_option maxRecDepth 20000 in
theorem gX2_digest_X2_silenced : GoodIn wsX2_digest (wsV RX2 182 RX2 yX2_silenced wsX2_silenced) := goodIn_app (goodIn_of _ (by decide +kernel)) ggX2_digest_X2_silenced
set_option maxRecDepth 20000 in
theorem ggX2_digest_X2_favouriteMoral : GoodIn wsX2_digest wsX2_favouriteMoral := goodIn_r _ [52, 22, 2, 53, 54, 55, 26, 56, 28, 57, 29, 30, 31, 32, 33, 34, 35, 7, 36, 37, 38, 39, 40, 41, 42, 43, 166, 167, 168, 169, 170, 171, 172, 173, 174, 175, 176, 177, 178, 179, 180, 181, 182, 183] (by decide +kernel) (by decide +kernel)
set_option maxRecDepth 20000 in
theorem gX2_digest_X2_favouriteMoral : GoodIn wsX2_digest (wsV RX2 185 RX2 yX2_favouriteMoral wsX2_favouriteMoral) := goodIn_app (goodIn_of _ (by decide +kernel)) ggX2_digest_X2_favouriteMoral
set_option maxRecDepth 20000 in
theorem ggX2_digest_X2_favouriteBeast : GoodIn wsX2_digest wsX2_favouriteBeast := goodIn_r _ [61, 22, 2, 62, 63, 64, 26, 65, 28, 66, 67, 7, 68, 29, 30, 31, 32, 33, 34, 35, 36, 37, 38, 39, 40, 41, 42, 43, 166, 167, 168, 169, 170, 171, 172, 173, 174, 175, 176, 177, 178, 179, 180, 181, 182, 183] (by decide +kernel) (by decide +kernel)
set_option maxRecDepth 20000 in
theorem gX2_digest_X2_favouriteBeast : GoodIn wsX2_digest (wsV RX2 188 RX2 yX2_favouriteBeast wsX2_favouriteBeast) := goodIn_app (goodIn_of _ (by decide +kernel)) ggX2_digest_X2_favouriteBeast
set_option maxRecDepth 20000 in
theorem ggX2_digest_X2_mixedWithFable : GoodIn wsX2_digest wsX2_mixedWithFable := goodIn_ca (goodIn_r _ [72, 73, 74, 75, 7, 76, 2, 77, 78, 79, 80, 81, 82, 83, 3, 9, 10, 11, 12, 84, 85, 86, 87, 88, 89, 35, 36, 37, 38, 39, 40, 41, 42, 43, 90, 91, 92, 93, 94, 95, 96, 97, 98, 99, 100, 101, 102, 103, 104, 105, 106, 107, 108, 22, 29, 30, 31, 32, 33, 34, 109, 110, 111, 112, 113, 114, 115, 116, 67, 68, 117, 118, 119, 120, 121, 122, 123, 124, 125, 126, 127, 128, 129, 130, 131, 132, 133, 134, 135, 136, 166, 167, 168, 169, 170, 171, 172, 173, 174, 175, 176, 177, 178, 179, 180, 181, 182, 183] (by decide +kernel) (by decide +kernel)) (goodIn_sub (fun _ h => List.mem_cons_of_mem _ (List.mem_append_right _ h)) (by decide +kernel))
set_option maxRecDepth 20000 in
theorem gX2_digest_X2_mixedWithFable : GoodIn wsX2_digest (wsV RX2 191 RX2 yX2_mixedWithFable wsX2_mixedWithFable) := goodIn_app (goodIn_of _ (by decide +kernel)) ggX2_digest_X2_mixedWithFable
set_option maxRecDepth 20000 in
theorem ggX2_digest_X2_mixedWithValley : GoodIn wsX2_digest wsX2_mixedWithValley := goodIn_ca (goodIn_r _ [140, 141, 142, 143, 7, 144, 22, 121, 122, 123, 124, 82, 83, 89, 35, 36, 37, 38, 39, 40, 41, 42, 43, 9, 10, 11, 12, 145, 146, 147, 148, 2, 149, 150, 151, 32, 152, 153, 154, 130, 131, 132, 133, 134, 135, 136, 67, 68, 155, 156, 157, 158, 159, 160, 161, 162, 163, 164, 165, 116, 166, 167, 168, 169, 177, 178, 179, 180, 181, 182, 183, 170, 171, 172, 173, 174, 175, 176] (by decide +kernel) (by decide +kernel)) (goodIn_sub (fun _ h => List.mem_cons_of_mem _ (List.mem_append_right _ h)) (by decide +kernel))
set_option maxRecDepth 20000 in
theorem gX2_digest_X2_mixedWithValley : GoodIn wsX2_digest (wsV RX2 194 RX2 yX2_mixedWithValley wsX2_mixedWithValley) := goodIn_app (goodIn_of _ (by decide +kernel)) ggX2_digest_X2_mixedWithValley
theorem dX2_digest_0 : decode cX2_digest 0 = .ok (.ldc2_w 168, 3) := by decide +kernel
theorem dX2_digest_3 : decode cX2_digest 3 = .ok (.lstore_n 1, 1) := by decide +kernel
theorem dX2_digest_4 : decode cX2_digest 4 = .ok (.lload_n 1, 1) := by decide +kernel
theorem dX2_digest_5 : decode cX2_digest 5 = .ok (.aload_n 0, 1) := by decide +kernel
theorem dX2_digest_6 : decode cX2_digest 6 = .ok (.invokevirtual 170, 3) := by decide +kernel
theorem dX2_digest_9 : decode cX2_digest 9 = .ok (.invokestatic 173, 3) := by decide +kernel
theorem dX2_digest_12 : decode cX2_digest 12 = .ok (.lstore_n 1, 1) := by decide +kernel
theorem dX2_digest_13 : decode cX2_digest 13 = .ok (.lload_n 1, 1) := by decide +kernel
theorem dX2_digest_14 : decode cX2_digest 14 = .ok (.aload_n 0, 1) := by decide +kernel
theorem dX2_digest_15 : decode cX2_digest 15 = .ok (.invokevirtual 177, 3) := by decide +kernel
theorem dX2_digest_18 : decode cX2_digest 18 = .ok (.invokestatic 173, 3) := by decide +kernel
theorem dX2_digest_21 : decode cX2_digest 21 = .ok (.lstore_n 1, 1) := by decide +kernel
theorem dX2_digest_22 : decode cX2_digest 22 = .ok (.lload_n 1, 1) := by decide +kernel
theorem dX2_digest_23 : decode cX2_digest 23 = .ok (.aload_n 0, 1) := by decide +kernel
theorem dX2_digest_24 : decode cX2_digest 24 = .ok (.invokevirtual 179, 3) := by decide +kernel
theorem dX2_digest_27 : decode cX2_digest 27 = .ok (.invokestatic 173, 3) := by decide +kernel
theorem dX2_digest_30 : decode cX2_digest 30 = .ok (.lstore_n 1, 1) := by decide +kernel
theorem dX2_digest_31 : decode cX2_digest 31 = .ok (.lload_n 1, 1) := by decide +kernel
theorem dX2_digest_32 : decode cX2_digest 32 = .ok (.aload_n 0, 1) := by decide +kernel
theorem dX2_digest_33 : decode cX2_digest 33 = .ok (.invokevirtual 182, 3) := by decide +kernel
theorem dX2_digest_36 : decode cX2_digest 36 = .ok (.invokestatic 173, 3) := by decide +kernel
theorem dX2_digest_39 : decode cX2_digest 39 = .ok (.lstore_n 1, 1) := by decide +kernel
theorem dX2_digest_40 : decode cX2_digest 40 = .ok (.lload_n 1, 1) := by decide +kernel
theorem dX2_digest_41 : decode cX2_digest 41 = .ok (.aload_n 0, 1) := by decide +kernel
theorem dX2_digest_42 : decode cX2_digest 42 = .ok (.invokevirtual 185, 3) := by decide +kernel
theorem dX2_digest_45 : decode cX2_digest 45 = .ok (.invokestatic 173, 3) := by decide +kernel
theorem dX2_digest_48 : decode cX2_digest 48 = .ok (.lstore_n 1, 1) := by decide +kernel
theorem dX2_digest_49 : decode cX2_digest 49 = .ok (.lload_n 1, 1) := by decide +kernel
theorem dX2_digest_50 : decode cX2_digest 50 = .ok (.aload_n 0, 1) := by decide +kernel
theorem dX2_digest_51 : decode cX2_digest 51 = .ok (.invokevirtual 188, 3) := by decide +kernel
theorem dX2_digest_54 : decode cX2_digest 54 = .ok (.invokestatic 173, 3) := by decide +kernel
theorem dX2_digest_57 : decode cX2_digest 57 = .ok (.lstore_n 1, 1) := by decide +kernel
theorem dX2_digest_58 : decode cX2_digest 58 = .ok (.iconst 0, 1) := by decide +kernel
theorem dX2_digest_59 : decode cX2_digest 59 = .ok (.istore_n 3, 1) := by decide +kernel
theorem dX2_digest_60 : decode cX2_digest 60 = .ok (.iload_n 3, 1) := by decide +kernel
theorem dX2_digest_61 : decode cX2_digest 61 = .ok (.aload_n 0, 1) := by decide +kernel
theorem dX2_digest_62 : decode cX2_digest 62 = .ok (.getfield 10, 3) := by decide +kernel
theorem dX2_digest_65 : decode cX2_digest 65 = .ok (.getfield 146, 3) := by decide +kernel
theorem dX2_digest_68 : decode cX2_digest 68 = .ok (.if_icmp .ge 16, 3) := by decide +kernel
theorem dX2_digest_71 : decode cX2_digest 71 = .ok (.aload_n 0, 1) := by decide +kernel
theorem dX2_digest_72 : decode cX2_digest 72 = .ok (.lload_n 1, 1) := by decide +kernel
theorem dX2_digest_73 : decode cX2_digest 73 = .ok (.iload_n 3, 1) := by decide +kernel
theorem dX2_digest_74 : decode cX2_digest 74 = .ok (.invokevirtual 191, 3) := by decide +kernel
theorem dX2_digest_77 : decode cX2_digest 77 = .ok (.lstore_n 1, 1) := by decide +kernel
theorem dX2_digest_78 : decode cX2_digest 78 = .ok (.iinc 3 1, 3) := by decide +kernel
theorem dX2_digest_81 : decode cX2_digest 81 = .ok (.goto (-21), 3) := by decide +kernel
theorem dX2_digest_84 : decode cX2_digest 84 = .ok (.iconst 0, 1) := by decide +kernel
theorem dX2_digest_85 : decode cX2_digest 85 = .ok (.istore_n 3, 1) := by decide +kernel
theorem dX2_digest_86 : decode cX2_digest 86 = .ok (.iload_n 3, 1) := by decide +kernel
theorem dX2_digest_87 : decode cX2_digest 87 = .ok (.bipush 6, 2) := by decide +kernel
theorem dX2_digest_89 : decode cX2_digest 89 = .ok (.if_icmp .ge 16, 3) := by decide +kernel
theorem dX2_digest_92 : decode cX2_digest 92 = .ok (.aload_n 0, 1) := by decide +kernel
theorem dX2_digest_93 : decode cX2_digest 93 = .ok (.lload_n 1, 1) := by decide +kernel
theorem dX2_digest_94 : decode cX2_digest 94 = .ok (.iload_n 3, 1) := by decide +kernel
theorem dX2_digest_95 : decode cX2_digest 95 = .ok (.invokevirtual 194, 3) := by decide +kernel
theorem dX2_digest_98 : decode cX2_digest 98 = .ok (.lstore_n 1, 1) := by decide +kernel
theorem dX2_digest_99 : decode cX2_digest 99 = .ok (.iinc 3 1, 3) := by decide +kernel
theorem dX2_digest_102 : decode cX2_digest 102 = .ok (.goto (-16), 3) := by decide +kernel
theorem dX2_digest_105 : decode cX2_digest 105 = .ok (.lload_n 1, 1) := by decide +kernel
theorem dX2_digest_106 : decode cX2_digest 106 = .ok (.lreturn, 1) := by decide +kernel
set_option maxRecDepth 20000 in
theorem ggX2_mixedWithFable_X2_moralOf : GoodIn wsX2_mixedWithFable wsX2_moralOf := goodIn_ca (goodIn_r _ [5, 6, 7, 8, 9, 10, 4, 11, 12, 13, 14, 90, 91, 92, 93, 94, 95, 96, 97, 98, 99, 100] (by decide +kernel) (by decide +kernel)) (goodIn_sub (fun _ h => List.mem_cons_of_mem _ (List.mem_append_right _ h)) (by decide +kernel))
set_option maxRecDepth 20000 in
theorem gX2_mixedWithFable_X2_moralOf : GoodIn wsX2_mixedWithFable (wsV RX2 197 RX2 yX2_moralOf wsX2_moralOf) := goodIn_app (goodIn_of _ (by decide +kernel)) ggX2_mixedWithFable_X2_moralOf
set_option maxRecDepth 20000 in
theorem ggX2_mixedWithFable_X2_mixed : GoodIn wsX2_mixedWithFable wsX2_mixed := goodIn_r _ [17, 18] (by decide +kernel) (by decide +kernel)
set_option maxRecDepth 20000 in
theorem gX2_mixedWithFable_X2_mixed : GoodIn wsX2_mixedWithFable (va_wsS RX2 173 yX2_mixed wsX2_mixed) := goodIn_app (goodIn_of _ (by decide +kernel)) ggX2_mixedWithFable_X2_mixed
set_option maxRecDepth 20000 in
theorem ggX2_mixedWithFable_X2_beastsOf : GoodIn wsX2_mixedWithFable wsX2_beastsOf := goodIn_ca (goodIn_r _ [22, 6, 23, 8, 9, 10, 4, 11, 12, 13, 14, 24, 25, 26, 27, 28, 29, 30, 31, 32, 33, 90, 91, 92, 93, 94, 95, 96, 97, 98, 99, 100] (by decide +kernel) (by decide +kernel)) (goodIn_sub (fun _ h => List.mem_cons_of_mem _ (List.mem_append_right _ h)) (by decide +kernel))
set_option maxRecDepth 20000 in
theorem gX2_mixedWithFable_X2_beastsOf : GoodIn wsX2_mixedWithFable (wsV RX2 200 RX2 yX2_beastsOf wsX2_beastsOf) := goodIn_app (goodIn_of _ (by decide +kernel)) ggX2_mixedWithFable_X2_beastsOf
set_option maxRecDepth 20000 in
theorem ggX2_mixedWithFable_X2_homeOf : GoodIn wsX2_mixedWithFable wsX2_homeOf := goodIn_ca (goodIn_r _ [37, 6, 38, 8, 9, 10, 4, 11, 12, 13, 14, 90, 91, 92, 93, 94, 95, 96, 97, 98, 99, 100] (by decide +kernel) (by decide +kernel)) (goodIn_sub (fun _ h => List.mem_cons_of_mem _ (List.mem_append_right _ h)) (by decide +kernel))
set_option maxRecDepth 20000 in
theorem gX2_mixedWithFable_X2_homeOf : GoodIn wsX2_mixedWithFable (wsV RX2 203 RX2 yX2_homeOf wsX2_homeOf) := goodIn_app (goodIn_of _ (by decide +kernel)) ggX2_mixedWithFable_X2_homeOf
set_option maxRecDepth 20000 in
theorem ggX2_mixedWithFable_X2_parentOf : GoodIn wsX2_mixedWithFable wsX2_parentOf := goodIn_ca (goodIn_r _ [42, 6, 43, 8, 9, 10, 4, 11, 12, 13, 14, 90, 91, 92, 93, 94, 95, 96, 97, 98, 99, 100] (by decide +kernel) (by decide +kernel)) (goodIn_sub (fun _ h => List.mem_cons_of_mem _ (List.mem_append_right _ h)) (by decide +kernel))
set_option maxRecDepth 20000 in
theorem gX2_mixedWithFable_X2_parentOf : GoodIn wsX2_mixedWithFable (wsV RX2 206 RX2 yX2_parentOf wsX2_parentOf) := goodIn_app (goodIn_of _ (by decide +kernel)) ggX2_mixedWithFable_X2_parentOf
set_option maxRecDepth 20000 in
theorem ggX2_mixedWithFable_X2_variantsOf : GoodIn wsX2_mixedWithFable wsX2_variantsOf := goodIn_ca (goodIn_r _ [47, 6, 48, 8, 9, 10, 4, 11, 12, 13, 14, 24, 25, 26, 27, 28, 29, 30, 31, 32, 33, 90, 91, 92, 93, 94, 95, 96, 97, 98, 99, 100] (by decide +kernel) (by decide +kernel)) (goodIn_sub (fun _ h => List.mem_cons_of_mem _ (List.mem_append_right _ h)) (by decide +kernel))
set_option maxRecDepth 20000 in
theorem gX2_mixedWithFable_X2_variantsOf : GoodIn wsX2_mixedWithFable (wsV RX2 209 RX2 yX2_variantsOf wsX2_variantsOf) := goodIn_app (goodIn_of _ (by decide +kernel)) ggX2_mixedWithFable_X2_variantsOf
set_option maxRecDepth 20000 in
theorem ggX2_mixedWithFable_X2_valleysOf : GoodIn wsX2_mixedWithFable wsX2_valleysOf := goodIn_ca (goodIn_r _ [52, 53, 8, 9, 10, 4, 11, 12, 13, 6, 14, 54, 55, 56, 57, 58, 59, 25, 26, 27, 28, 29, 30, 31, 32, 33, 90, 91, 92, 93, 94, 95, 96, 97, 98, 99, 100, 101, 102, 103, 104, 105, 106, 107] (by decide +kernel) (by decide +kernel)) (goodIn_sub (fun _ h => List.mem_cons_of_mem _ (List.mem_append_right _ h)) (by decide +kernel))
set_option maxRecDepth 20000 in
theorem gX2_mixedWithFable_X2_valleysOf : GoodIn wsX2_mixedWithFable (wsV RX2 212 RX2 yX2_valleysOf wsX2_valleysOf) := goodIn_app (goodIn_of _ (by decide +kernel)) ggX2_mixedWithFable_X2_valleysOf
set_option maxRecDepth 20000 in
theorem ggX2_mixedWithFable_X2_hasBeast : GoodIn wsX2_mixedWithFable wsX2_hasBeast := goodIn_ca (goodIn_r _ [63, 6, 23, 8, 9, 10, 4, 11, 12, 13, 14, 64, 65, 66, 67, 68, 69, 90, 91, 92, 93, 94, 95, 96, 97, 98, 99, 100] (by decide +kernel) (by decide +kernel)) (goodIn_sub (fun _ h => List.mem_cons_of_mem _ (List.mem_append_right _ h)) (by decide +kernel))
set_option maxRecDepth 20000 in
theorem gX2_mixedWithFable_X2_hasBeast : GoodIn wsX2_mixedWithFable (wsV RX2 215 RX2 yX2_hasBeast wsX2_hasBeast) := goodIn_app (goodIn_of _ (by decide +kernel)) ggX2_mixedWithFable_X2_hasBeast
set_option maxRecDepth 20000 in
theorem ggX2_mixedWithFable_X2_isTold : GoodIn wsX2_mixedWithFable wsX2_isTold := goodIn_ca (goodIn_r _ [73, 53, 74, 8, 9, 10, 4, 11, 12, 13, 6, 14, 75, 76, 77, 67, 68, 69, 90, 91, 92, 93, 101, 102, 103, 104, 105, 106, 107, 94, 95, 96, 97, 98, 99, 100] (by decide +kernel) (by decide +kernel)) (goodIn_sub (fun _ h => List.mem_cons_of_mem _ (List.mem_append_right _ h)) (by decide +kernel))
set_option maxRecDepth 20000 in
theorem gX2_mixedWithFable_X2_isTold : GoodIn wsX2_mixedWithFable (wsV RX2 218 RX2 yX2_isTold wsX2_isTold) := goodIn_app (goodIn_of _ (by decide +kernel)) ggX2_mixedWithFable_X2_isTold
set_option maxRecDepth 20000 in
theorem ggX2_mixedWithFable_X2_isBanned : GoodIn wsX2_mixedWithFable wsX2_isBanned := goodIn_ca (goodIn_r _ [81, 53, 6, 8, 9, 10, 4, 11, 12, 13, 14, 75, 76, 77, 82, 83, 84, 57, 85, 86, 87, 88, 89, 68, 69, 90, 91, 92, 93, 94, 95, 96, 97, 98, 99, 100, 101, 102, 103, 104, 105, 106, 107] (by decide +kernel) (by decide +kernel)) (goodIn_sub (fun _ h => List.mem_cons_of_mem _ (List.mem_append_right _ h)) (by decide +kernel))
set_option maxRecDepth 20000 in
theorem gX2_mixedWithFable_X2_isBanned : GoodIn wsX2_mixedWithFable (wsV RX2 221 RX2 yX2_isBanned wsX2_isBanned) := goodIn_app (goodIn_of _ (by decide +kernel)) ggX2_mixedWithFable_X2_isBanned
theorem dX2_mixedWithFable_0 : decode cX2_mixedWithFable 0 = .ok (.lload_n 1, 1) := by decide +kernel
theorem dX2_mixedWithFable_1 : decode cX2_mixedWithFable 1 = .ok (.lstore 4, 2) := by decide +kernel
theorem dX2_mixedWithFable_3 : decode cX2_mixedWithFable 3 = .ok (.lload 4, 2) := by decide +kernel
theorem dX2_mixedWithFable_5 : decode cX2_mixedWithFable 5 = .ok (.aload_n 0, 1) := by decide +kernel
theorem dX2_mixedWithFable_6 : decode cX2_mixedWithFable 6 = .ok (.iload_n 3, 1) := by decide +kernel
theorem dX2_mixedWithFable_7 : decode cX2_mixedWithFable 7 = .ok (.invokevirtual 197, 3) := by decide +kernel
theorem dX2_mixedWithFable_10 : decode cX2_mixedWithFable 10 = .ok (.invokestatic 173, 3) := by decide +kernel
theorem dX2_mixedWithFable_13 : decode cX2_mixedWithFable 13 = .ok (.lstore 4, 2) := by decide +kernel
theorem dX2_mixedWithFable_15 : decode cX2_mixedWithFable 15 = .ok (.lload 4, 2) := by decide +kernel
theorem dX2_mixedWithFable_17 : decode cX2_mixedWithFable 17 = .ok (.aload_n 0, 1) := by decide +kernel
theorem dX2_mixedWithFable_18 : decode cX2_mixedWithFable 18 = .ok (.iload_n 3, 1) := by decide +kernel
theorem dX2_mixedWithFable_19 : decode cX2_mixedWithFable 19 = .ok (.invokevirtual 200, 3) := by decide +kernel
theorem dX2_mixedWithFable_22 : decode cX2_mixedWithFable 22 = .ok (.invokestatic 173, 3) := by decide +kernel
theorem dX2_mixedWithFable_25 : decode cX2_mixedWithFable 25 = .ok (.lstore 4, 2) := by decide +kernel
theorem dX2_mixedWithFable_27 : decode cX2_mixedWithFable 27 = .ok (.lload 4, 2) := by decide +kernel
theorem dX2_mixedWithFable_29 : decode cX2_mixedWithFable 29 = .ok (.aload_n 0, 1) := by decide +kernel
theorem dX2_mixedWithFable_30 : decode cX2_mixedWithFable 30 = .ok (.iload_n 3, 1) := by decide +kernel
theorem dX2_mixedWithFable_31 : decode cX2_mixedWithFable 31 = .ok (.invokevirtual 203, 3) := by decide +kernel
theorem dX2_mixedWithFable_34 : decode cX2_mixedWithFable 34 = .ok (.invokestatic 173, 3) := by decide +kernel
theorem dX2_mixedWithFable_37 : decode cX2_mixedWithFable 37 = .ok (.lstore 4, 2) := by decide +kernel
theorem dX2_mixedWithFable_39 : decode cX2_mixedWithFable 39 = .ok (.lload 4, 2) := by decide +kernel
theorem dX2_mixedWithFable_41 : decode cX2_mixedWithFable 41 = .ok (.aload_n 0, 1) := by decide +kernel
theorem dX2_mixedWithFable_42 : decode cX2_mixedWithFable 42 = .ok (.iload_n 3, 1) := by decide +kernel
theorem dX2_mixedWithFable_43 : decode cX2_mixedWithFable 43 = .ok (.invokevirtual 206, 3) := by decide +kernel
theorem dX2_mixedWithFable_46 : decode cX2_mixedWithFable 46 = .ok (.invokestatic 173, 3) := by decide +kernel
theorem dX2_mixedWithFable_49 : decode cX2_mixedWithFable 49 = .ok (.lstore 4, 2) := by decide +kernel
theorem dX2_mixedWithFable_51 : decode cX2_mixedWithFable 51 = .ok (.lload 4, 2) := by decide +kernel
theorem dX2_mixedWithFable_53 : decode cX2_mixedWithFable 53 = .ok (.aload_n 0, 1) := by decide +kernel
theorem dX2_mixedWithFable_54 : decode cX2_mixedWithFable 54 = .ok (.iload_n 3, 1) := by decide +kernel
theorem dX2_mixedWithFable_55 : decode cX2_mixedWithFable 55 = .ok (.invokevirtual 209, 3) := by decide +kernel
theorem dX2_mixedWithFable_58 : decode cX2_mixedWithFable 58 = .ok (.invokestatic 173, 3) := by decide +kernel
theorem dX2_mixedWithFable_61 : decode cX2_mixedWithFable 61 = .ok (.lstore 4, 2) := by decide +kernel
theorem dX2_mixedWithFable_63 : decode cX2_mixedWithFable 63 = .ok (.lload 4, 2) := by decide +kernel
theorem dX2_mixedWithFable_65 : decode cX2_mixedWithFable 65 = .ok (.aload_n 0, 1) := by decide +kernel
theorem dX2_mixedWithFable_66 : decode cX2_mixedWithFable 66 = .ok (.iload_n 3, 1) := by decide +kernel
theorem dX2_mixedWithFable_67 : decode cX2_mixedWithFable 67 = .ok (.invokevirtual 212, 3) := by decide +kernel
theorem dX2_mixedWithFable_70 : decode cX2_mixedWithFable 70 = .ok (.invokestatic 173, 3) := by decide +kernel
theorem dX2_mixedWithFable_73 : decode cX2_mixedWithFable 73 = .ok (.lstore 4, 2) := by decide +kernel
theorem dX2_mixedWithFable_75 : decode cX2_mixedWithFable 75 = .ok (.iconst 0, 1) := by decide +kernel
theorem dX2_mixedWithFable_76 : decode cX2_mixedWithFable 76 = .ok (.istore 6, 2) := by decide +kernel
theorem dX2_mixedWithFable_78 : decode cX2_mixedWithFable 78 = .ok (.iload 6, 2) := by decide +kernel
theorem dX2_mixedWithFable_80 : decode cX2_mixedWithFable 80 = .ok (.bipush 12, 2) := by decide +kernel
theorem dX2_mixedWithFable_82 : decode cX2_mixedWithFable 82 = .ok (.if_icmp .ge 31, 3) := by decide +kernel
theorem dX2_mixedWithFable_85 : decode cX2_mixedWithFable 85 = .ok (.lload 4, 2) := by decide +kernel
theorem dX2_mixedWithFable_87 : decode cX2_mixedWithFable 87 = .ok (.aload_n 0, 1) := by decide +kernel
theorem dX2_mixedWithFable_88 : decode cX2_mixedWithFable 88 = .ok (.iload_n 3, 1) := by decide +kernel
theorem dX2_mixedWithFable_89 : decode cX2_mixedWithFable 89 = .ok (.iload 6, 2) := by decide +kernel
theorem dX2_mixedWithFable_91 : decode cX2_mixedWithFable 91 = .ok (.invokevirtual 215, 3) := by decide +kernel
theorem dX2_mixedWithFable_94 : decode cX2_mixedWithFable 94 = .ok (.ifCond .eq 7, 3) := by decide +kernel
theorem dX2_mixedWithFable_97 : decode cX2_mixedWithFable 97 = .ok (.iconst 1, 1) := by decide +kernel
theorem dX2_mixedWithFable_98 : decode cX2_mixedWithFable 98 = .ok (.goto 4, 3) := by decide +kernel
theorem dX2_mixedWithFable_101 : decode cX2_mixedWithFable 101 = .ok (.iconst 0, 1) := by decide +kernel
theorem dX2_mixedWithFable_102 : decode cX2_mixedWithFable 102 = .ok (.invokestatic 173, 3) := by decide +kernel
theorem dX2_mixedWithFable_105 : decode cX2_mixedWithFable 105 = .ok (.lstore 4, 2) := by decide +kernel
theorem dX2_mixedWithFable_107 : decode cX2_mixedWithFable 107 = .ok (.iinc 6 1, 3) := by decide +kernel
theorem dX2_mixedWithFable_110 : decode cX2_mixedWithFable 110 = .ok (.goto (-32), 3) := by decide +kernel
theorem dX2_mixedWithFable_113 : decode cX2_mixedWithFable 113 = .ok (.iconst 0, 1) := by decide +kernel
theorem dX2_mixedWithFable_114 : decode cX2_mixedWithFable 114 = .ok (.istore 6, 2) := by decide +kernel
theorem dX2_mixedWithFable_116 : decode cX2_mixedWithFable 116 = .ok (.iload 6, 2) := by decide +kernel
theorem dX2_mixedWithFable_118 : decode cX2_mixedWithFable 118 = .ok (.bipush 6, 2) := by decide +kernel
theorem dX2_mixedWithFable_120 : decode cX2_mixedWithFable 120 = .ok (.if_icmp .ge 31, 3) := by decide +kernel
theorem dX2_mixedWithFable_123 : decode cX2_mixedWithFable 123 = .ok (.lload 4, 2) := by decide +kernel
theorem dX2_mixedWithFable_125 : decode cX2_mixedWithFable 125 = .ok (.aload_n 0, 1) := by decide +kernel
theorem dX2_mixedWithFable_126 : decode cX2_mixedWithFable 126 = .ok (.iload_n 3, 1) := by decide +kernel
theorem dX2_mixedWithFable_127 : decode cX2_mixedWithFable 127 = .ok (.iload 6, 2) := by decide +kernel
theorem dX2_mixedWithFable_129 : decode cX2_mixedWithFable 129 = .ok (.invokevirtual 218, 3) := by decide +kernel
theorem dX2_mixedWithFable_132 : decode cX2_mixedWithFable 132 = .ok (.ifCond .eq 7, 3) := by decide +kernel
theorem dX2_mixedWithFable_135 : decode cX2_mixedWithFable 135 = .ok (.iconst 1, 1) := by decide +kernel
theorem dX2_mixedWithFable_136 : decode cX2_mixedWithFable 136 = .ok (.goto 4, 3) := by decide +kernel
theorem dX2_mixedWithFable_139 : decode cX2_mixedWithFable 139 = .ok (.iconst 0, 1) := by decide +kernel
theorem dX2_mixedWithFable_140 : decode cX2_mixedWithFable 140 = .ok (.invokestatic 173, 3) := by decide +kernel
theorem dX2_mixedWithFable_143 : decode cX2_mixedWithFable 143 = .ok (.lstore 4, 2) := by decide +kernel
theorem dX2_mixedWithFable_145 : decode cX2_mixedWithFable 145 = .ok (.iinc 6 1, 3) := by decide +kernel
theorem dX2_mixedWithFable_148 : decode cX2_mixedWithFable 148 = .ok (.goto (-32), 3) := by decide +kernel
theorem dX2_mixedWithFable_151 : decode cX2_mixedWithFable 151 = .ok (.iconst 0, 1) := by decide +kernel
theorem dX2_mixedWithFable_152 : decode cX2_mixedWithFable 152 = .ok (.istore 6, 2) := by decide +kernel
theorem dX2_mixedWithFable_154 : decode cX2_mixedWithFable 154 = .ok (.iload 6, 2) := by decide +kernel
theorem dX2_mixedWithFable_156 : decode cX2_mixedWithFable 156 = .ok (.bipush 6, 2) := by decide +kernel
theorem dX2_mixedWithFable_158 : decode cX2_mixedWithFable 158 = .ok (.if_icmp .ge 31, 3) := by decide +kernel
theorem dX2_mixedWithFable_161 : decode cX2_mixedWithFable 161 = .ok (.lload 4, 2) := by decide +kernel
theorem dX2_mixedWithFable_163 : decode cX2_mixedWithFable 163 = .ok (.aload_n 0, 1) := by decide +kernel
theorem dX2_mixedWithFable_164 : decode cX2_mixedWithFable 164 = .ok (.iload_n 3, 1) := by decide +kernel
theorem dX2_mixedWithFable_165 : decode cX2_mixedWithFable 165 = .ok (.iload 6, 2) := by decide +kernel
theorem dX2_mixedWithFable_167 : decode cX2_mixedWithFable 167 = .ok (.invokevirtual 221, 3) := by decide +kernel
theorem dX2_mixedWithFable_170 : decode cX2_mixedWithFable 170 = .ok (.ifCond .eq 7, 3) := by decide +kernel
theorem dX2_mixedWithFable_173 : decode cX2_mixedWithFable 173 = .ok (.iconst 1, 1) := by decide +kernel
theorem dX2_mixedWithFable_174 : decode cX2_mixedWithFable 174 = .ok (.goto 4, 3) := by decide +kernel
theorem dX2_mixedWithFable_177 : decode cX2_mixedWithFable 177 = .ok (.iconst 0, 1) := by decide +kernel
theorem dX2_mixedWithFable_178 : decode cX2_mixedWithFable 178 = .ok (.invokestatic 173, 3) := by decide +kernel
theorem dX2_mixedWithFable_181 : decode cX2_mixedWithFable 181 = .ok (.lstore 4, 2) := by decide +kernel
theorem dX2_mixedWithFable_183 : decode cX2_mixedWithFable 183 = .ok (.iinc 6 1, 3) := by decide +kernel
theorem dX2_mixedWithFable_186 : decode cX2_mixedWithFable 186 = .ok (.goto (-32), 3) := by decide +kernel
theorem dX2_mixedWithFable_189 : decode cX2_mixedWithFable 189 = .ok (.lload 4, 2) := by decide +kernel
theorem dX2_mixedWithFable_191 : decode cX2_mixedWithFable 191 = .ok (.lreturn, 1) := by decide +kernel
set_option maxRecDepth 20000 in
theorem ggX2_mixedWithValley_X2_toldIn : GoodIn wsX2_mixedWithValley wsX2_toldIn := goodIn_ca (goodIn_r _ [5, 6, 7, 8, 9, 4, 10, 11, 12, 13, 14, 15, 16, 17, 18, 19, 20, 21, 22, 60, 61, 62, 63, 64, 65, 66, 67, 68, 69, 70] (by decide +kernel) (by decide +kernel)) (goodIn_sub (fun _ h => List.mem_cons_of_mem _ (List.mem_append_right _ h)) (by decide +kernel))
set_option maxRecDepth 20000 in
theorem gX2_mixedWithValley_X2_toldIn : GoodIn wsX2_mixedWithValley (wsV RX2 224 RX2 yX2_toldIn wsX2_toldIn) := goodIn_app (goodIn_of _ (by decide +kernel)) ggX2_mixedWithValley_X2_toldIn
set_option maxRecDepth 20000 in
theorem ggX2_mixedWithValley_X2_mixed : GoodIn wsX2_mixedWithValley wsX2_mixed := goodIn_r _ [25, 26] (by decide +kernel) (by decide +kernel)
set_option maxRecDepth 20000 in
theorem gX2_mixedWithValley_X2_mixed : GoodIn wsX2_mixedWithValley (va_wsS RX2 173 yX2_mixed wsX2_mixed) := goodIn_app (goodIn_of _ (by decide +kernel)) ggX2_mixedWithValley_X2_mixed
set_option maxRecDepth 20000 in
theorem ggX2_mixedWithValley_X2_allowedIn : GoodIn wsX2_mixedWithValley wsX2_allowedIn := goodIn_ca (goodIn_r _ [30, 6, 31, 8, 9, 4, 10, 11, 12, 32, 33, 34, 35, 36, 37, 38, 39, 40, 41, 42, 43, 44, 45, 46, 47, 13, 14, 15, 16, 17, 18, 19, 20, 21, 22, 60, 61, 62, 63, 71, 72, 73, 74, 75, 76, 77, 64, 65, 66, 67, 68, 69, 70] (by decide +kernel) (by decide +kernel)) (goodIn_sub (fun _ h => List.mem_cons_of_mem _ (List.mem_append_right _ h)) (by decide +kernel))
set_option maxRecDepth 20000 in
theorem gX2_mixedWithValley_X2_allowedIn : GoodIn wsX2_mixedWithValley (wsV RX2 227 RX2 yX2_allowedIn wsX2_allowedIn) := goodIn_app (goodIn_of _ (by decide +kernel)) ggX2_mixedWithValley_X2_allowedIn
set_option maxRecDepth 20000 in
theorem ggX2_mixedWithValley_X2_bansOf : GoodIn wsX2_mixedWithValley wsX2_bansOf := goodIn_ca (goodIn_r _ [51, 6, 52, 53, 8, 9, 4, 10, 11, 12, 13, 14, 15, 16, 17, 18, 19, 20, 21, 22, 60, 61, 62, 63, 64, 65, 66, 67, 68, 69, 70] (by decide +kernel) (by decide +kernel)) (goodIn_sub (fun _ h => List.mem_cons_of_mem _ (List.mem_append_right _ h)) (by decide +kernel))
set_option maxRecDepth 20000 in
theorem gX2_mixedWithValley_X2_bansOf : GoodIn wsX2_mixedWithValley (wsV RX2 230 RX2 yX2_bansOf wsX2_bansOf) := goodIn_app (goodIn_of _ (by decide +kernel)) ggX2_mixedWithValley_X2_bansOf
set_option maxRecDepth 20000 in
theorem ggX2_mixedWithValley_X2_isOpen : GoodIn wsX2_mixedWithValley wsX2_isOpen := goodIn_ca (goodIn_r _ [57, 6, 58, 8, 9, 4, 10, 11, 12, 59, 46, 47, 60, 61, 62, 63, 64, 65, 66, 67, 68, 69, 70] (by decide +kernel) (by decide +kernel)) (goodIn_sub (fun _ h => List.mem_cons_of_mem _ (List.mem_append_right _ h)) (by decide +kernel))
set_option maxRecDepth 20000 in
theorem gX2_mixedWithValley_X2_isOpen : GoodIn wsX2_mixedWithValley (wsV RX2 233 RX2 yX2_isOpen wsX2_isOpen) := goodIn_app (goodIn_of _ (by decide +kernel)) ggX2_mixedWithValley_X2_isOpen
theorem dX2_mixedWithValley_0 : decode cX2_mixedWithValley 0 = .ok (.lload_n 1, 1) := by decide +kernel
theorem dX2_mixedWithValley_1 : decode cX2_mixedWithValley 1 = .ok (.lstore 4, 2) := by decide +kernel
theorem dX2_mixedWithValley_3 : decode cX2_mixedWithValley 3 = .ok (.lload 4, 2) := by decide +kernel
theorem dX2_mixedWithValley_5 : decode cX2_mixedWithValley 5 = .ok (.aload_n 0, 1) := by decide +kernel
theorem dX2_mixedWithValley_6 : decode cX2_mixedWithValley 6 = .ok (.iload_n 3, 1) := by decide +kernel
theorem dX2_mixedWithValley_7 : decode cX2_mixedWithValley 7 = .ok (.invokevirtual 224, 3) := by decide +kernel
theorem dX2_mixedWithValley_10 : decode cX2_mixedWithValley 10 = .ok (.invokestatic 173, 3) := by decide +kernel
theorem dX2_mixedWithValley_13 : decode cX2_mixedWithValley 13 = .ok (.lstore 4, 2) := by decide +kernel
theorem dX2_mixedWithValley_15 : decode cX2_mixedWithValley 15 = .ok (.lload 4, 2) := by decide +kernel
theorem dX2_mixedWithValley_17 : decode cX2_mixedWithValley 17 = .ok (.aload_n 0, 1) := by decide +kernel
theorem dX2_mixedWithValley_18 : decode cX2_mixedWithValley 18 = .ok (.iload_n 3, 1) := by decide +kernel
theorem dX2_mixedWithValley_19 : decode cX2_mixedWithValley 19 = .ok (.invokevirtual 227, 3) := by decide +kernel
theorem dX2_mixedWithValley_22 : decode cX2_mixedWithValley 22 = .ok (.invokestatic 173, 3) := by decide +kernel
theorem dX2_mixedWithValley_25 : decode cX2_mixedWithValley 25 = .ok (.lstore 4, 2) := by decide +kernel
theorem dX2_mixedWithValley_27 : decode cX2_mixedWithValley 27 = .ok (.lload 4, 2) := by decide +kernel
theorem dX2_mixedWithValley_29 : decode cX2_mixedWithValley 29 = .ok (.aload_n 0, 1) := by decide +kernel
theorem dX2_mixedWithValley_30 : decode cX2_mixedWithValley 30 = .ok (.iload_n 3, 1) := by decide +kernel
theorem dX2_mixedWithValley_31 : decode cX2_mixedWithValley 31 = .ok (.invokevirtual 230, 3) := by decide +kernel
theorem dX2_mixedWithValley_34 : decode cX2_mixedWithValley 34 = .ok (.invokestatic 173, 3) := by decide +kernel
theorem dX2_mixedWithValley_37 : decode cX2_mixedWithValley 37 = .ok (.lstore 4, 2) := by decide +kernel
theorem dX2_mixedWithValley_39 : decode cX2_mixedWithValley 39 = .ok (.iconst 0, 1) := by decide +kernel
theorem dX2_mixedWithValley_40 : decode cX2_mixedWithValley 40 = .ok (.istore 6, 2) := by decide +kernel
theorem dX2_mixedWithValley_42 : decode cX2_mixedWithValley 42 = .ok (.iload 6, 2) := by decide +kernel
theorem dX2_mixedWithValley_44 : decode cX2_mixedWithValley 44 = .ok (.bipush 6, 2) := by decide +kernel
theorem dX2_mixedWithValley_46 : decode cX2_mixedWithValley 46 = .ok (.if_icmp .ge 31, 3) := by decide +kernel
theorem dX2_mixedWithValley_49 : decode cX2_mixedWithValley 49 = .ok (.lload 4, 2) := by decide +kernel
theorem dX2_mixedWithValley_51 : decode cX2_mixedWithValley 51 = .ok (.aload_n 0, 1) := by decide +kernel
theorem dX2_mixedWithValley_52 : decode cX2_mixedWithValley 52 = .ok (.iload_n 3, 1) := by decide +kernel
theorem dX2_mixedWithValley_53 : decode cX2_mixedWithValley 53 = .ok (.iload 6, 2) := by decide +kernel
theorem dX2_mixedWithValley_55 : decode cX2_mixedWithValley 55 = .ok (.invokevirtual 233, 3) := by decide +kernel
theorem dX2_mixedWithValley_58 : decode cX2_mixedWithValley 58 = .ok (.ifCond .eq 7, 3) := by decide +kernel
theorem dX2_mixedWithValley_61 : decode cX2_mixedWithValley 61 = .ok (.iconst 1, 1) := by decide +kernel
theorem dX2_mixedWithValley_62 : decode cX2_mixedWithValley 62 = .ok (.goto 4, 3) := by decide +kernel
theorem dX2_mixedWithValley_65 : decode cX2_mixedWithValley 65 = .ok (.iconst 0, 1) := by decide +kernel
theorem dX2_mixedWithValley_66 : decode cX2_mixedWithValley 66 = .ok (.invokestatic 173, 3) := by decide +kernel
theorem dX2_mixedWithValley_69 : decode cX2_mixedWithValley 69 = .ok (.lstore 4, 2) := by decide +kernel
theorem dX2_mixedWithValley_71 : decode cX2_mixedWithValley 71 = .ok (.iinc 6 1, 3) := by decide +kernel
theorem dX2_mixedWithValley_74 : decode cX2_mixedWithValley 74 = .ok (.goto (-32), 3) := by decide +kernel
theorem dX2_mixedWithValley_77 : decode cX2_mixedWithValley 77 = .ok (.lload 4, 2) := by decide +kernel
theorem dX2_mixedWithValley_79 : decode cX2_mixedWithValley 79 = .ok (.lreturn, 1) := by decide +kernel
theorem dX2_mixed_0 : decode cX2_mixed 0 = .ok (.lload_n 0, 1) := by decide +kernel
theorem dX2_mixed_1 : decode cX2_mixed 1 = .ok (.ldc2_w 236, 3) := by decide +kernel
theorem dX2_mixed_4 : decode cX2_mixed 4 = .ok (.lmul, 1) := by decide +kernel
theorem dX2_mixed_5 : decode cX2_mixed 5 = .ok (.iload_n 2, 1) := by decide +kernel
theorem dX2_mixed_6 : decode cX2_mixed 6 = .ok (.i2l, 1) := by decide +kernel
theorem dX2_mixed_7 : decode cX2_mixed 7 = .ok (.ladd, 1) := by decide +kernel
theorem dX2_mixed_8 : decode cX2_mixed 8 = .ok (.lreturn, 1) := by decide +kernel
set_option maxRecDepth 20000 in
theorem ggX2_tellingsWithPass_X1_become : GoodIn wsX2_tellingsWithPass wsX1_become := goodIn_r _ [7, 8, 9, 10, 11, 12, 86, 87, 88, 89, 90, 91, 92] (by decide +kernel) (by decide +kernel)
set_option maxRecDepth 20000 in
theorem gX2_tellingsWithPass_X1_become : GoodIn wsX2_tellingsWithPass (wsV RX2 157 RX1 yX1_become wsX1_become) := goodIn_app (goodIn_of _ (by decide +kernel)) ggX2_tellingsWithPass_X1_become
set_option maxRecDepth 20000 in
theorem ggX2_tellingsWithPass_X1_turnWay : GoodIn wsX2_tellingsWithPass wsX1_turnWay := goodIn_r _ [16, 8, 17, 18, 19, 86, 87, 88, 89, 90, 91, 92] (by decide +kernel) (by decide +kernel)
set_option maxRecDepth 20000 in
theorem gX2_tellingsWithPass_X1_turnWay : GoodIn wsX2_tellingsWithPass (wsV RX2 90 RX1 yX1_turnWay wsX1_turnWay) := goodIn_app (goodIn_of _ (by decide +kernel)) ggX2_tellingsWithPass_X1_turnWay
set_option maxRecDepth 20000 in
theorem ggX2_tellingsWithPass_X2_tellingsOfTrial : GoodIn wsX2_tellingsWithPass wsX2_tellingsOfTrial := goodIn_r _ [23, 1, 24, 25, 26, 27, 6, 28, 29, 30, 31, 32, 33, 34, 35, 36, 37, 38, 9, 39, 10, 40, 41, 18, 42, 43, 44, 45, 46, 47, 11, 12, 48, 49, 50, 51, 52, 53, 54, 55, 56, 57, 58, 59, 60, 61, 62, 63, 64, 8, 65, 66, 67, 68, 69, 70, 71, 72, 73, 74, 75, 76, 77, 78, 79, 80, 81, 82, 83, 84, 85, 86, 87, 88, 89, 90, 91, 92, 93, 94, 95, 96, 97, 98, 99] (by decide +kernel) (by decide +kernel)
set_option maxRecDepth 20000 in
theorem gX2_tellingsWithPass_X2_tellingsOfTrial : GoodIn wsX2_tellingsWithPass (wsV RX2 161 RX2 yX2_tellingsOfTrial wsX2_tellingsOfTrial) := goodIn_app (goodIn_of _ (by decide +kernel)) ggX2_tellingsWithPass_X2_tellingsOfTrial
theorem dX2_tellingsWithPass_0 : decode cX2_tellingsWithPass 0 = .ok (.aload_n 0, 1) := by decide +kernel
theorem dX2_tellingsWithPass_1 : decode cX2_tellingsWithPass 1 = .ok (.getfield 23, 3) := by decide +kernel
theorem dX2_tellingsWithPass_4 : decode cX2_tellingsWithPass 4 = .ok (.aload_n 0, 1) := by decide +kernel
theorem dX2_tellingsWithPass_5 : decode cX2_tellingsWithPass 5 = .ok (.getfield 19, 3) := by decide +kernel
theorem dX2_tellingsWithPass_8 : decode cX2_tellingsWithPass 8 = .ok (.invokevirtual 157, 3) := by decide +kernel
theorem dX2_tellingsWithPass_11 : decode cX2_tellingsWithPass 11 = .ok (.aload_n 0, 1) := by decide +kernel
theorem dX2_tellingsWithPass_12 : decode cX2_tellingsWithPass 12 = .ok (.getfield 23, 3) := by decide +kernel
theorem dX2_tellingsWithPass_15 : decode cX2_tellingsWithPass 15 = .ok (.iload_n 1, 1) := by decide +kernel
theorem dX2_tellingsWithPass_16 : decode cX2_tellingsWithPass 16 = .ok (.iload_n 2, 1) := by decide +kernel
theorem dX2_tellingsWithPass_17 : decode cX2_tellingsWithPass 17 = .ok (.invokevirtual 90, 3) := by decide +kernel
theorem dX2_tellingsWithPass_20 : decode cX2_tellingsWithPass 20 = .ok (.aload_n 0, 1) := by decide +kernel
theorem dX2_tellingsWithPass_21 : decode cX2_tellingsWithPass 21 = .ok (.iload_n 3, 1) := by decide +kernel
theorem dX2_tellingsWithPass_22 : decode cX2_tellingsWithPass 22 = .ok (.invokevirtual 161, 3) := by decide +kernel
theorem dX2_tellingsWithPass_25 : decode cX2_tellingsWithPass 25 = .ok (.ireturn, 1) := by decide +kernel
set_option maxRecDepth 20000 in
theorem ggX2_tellingsOfTrial_X1_live : GoodIn wsX2_tellingsOfTrial wsX1_live := goodIn_r _ [7, 8, 9, 10, 11, 6, 12, 13, 14, 15, 16, 17, 18, 19, 20, 21, 22, 23, 24, 25, 26, 27, 28, 29, 30, 31, 32, 33, 34, 35, 36, 37, 38, 39, 40, 41, 42, 43, 44, 45, 46, 47, 48, 49, 50, 51, 52, 53, 54, 55, 56, 71, 72, 73, 74, 75, 76, 77, 78, 79, 80, 81, 82, 83, 84] (by decide +kernel) (by decide +kernel)
set_option maxRecDepth 20000 in
theorem gX2_tellingsOfTrial_X1_live : GoodIn wsX2_tellingsOfTrial (wsV RX2 122 RX1 yX1_live wsX1_live) := goodIn_app (goodIn_of _ (by decide +kernel)) ggX2_tellingsOfTrial_X1_live
set_option maxRecDepth 20000 in
theorem ggX2_tellingsOfTrial_X0_all : GoodIn wsX2_tellingsOfTrial wsX0_all := goodIn_r _ [61, 62, 78, 79, 80, 81, 82, 83, 84] (by decide +kernel) (by decide +kernel)
set_option maxRecDepth 20000 in
theorem gX2_tellingsOfTrial_X0_all : GoodIn wsX2_tellingsOfTrial (wsV RX2 126 RX0 yX0_all wsX0_all) := goodIn_app (goodIn_of _ (by decide +kernel)) ggX2_tellingsOfTrial_X0_all
set_option maxRecDepth 20000 in
theorem ggX2_tellingsOfTrial_X1_count : GoodIn wsX2_tellingsOfTrial wsX1_count := goodIn_r _ [66, 30, 32, 23, 33, 34, 35, 36, 37, 38, 39, 40, 71, 72, 73, 74, 75, 76, 77] (by decide +kernel) (by decide +kernel)
set_option maxRecDepth 20000 in
theorem gX2_tellingsOfTrial_X1_count : GoodIn wsX2_tellingsOfTrial (wsV RX2 114 RX1 yX1_count wsX1_count) := goodIn_app (goodIn_of _ (by decide +kernel)) ggX2_tellingsOfTrial_X1_count
theorem dX2_tellingsOfTrial_0 : decode cX2_tellingsOfTrial 0 = .ok (.aload_n 0, 1) := by decide +kernel
theorem dX2_tellingsOfTrial_1 : decode cX2_tellingsOfTrial 1 = .ok (.getfield 23, 3) := by decide +kernel
theorem dX2_tellingsOfTrial_4 : decode cX2_tellingsOfTrial 4 = .ok (.aload_n 0, 1) := by decide +kernel
theorem dX2_tellingsOfTrial_5 : decode cX2_tellingsOfTrial 5 = .ok (.getfield 10, 3) := by decide +kernel
theorem dX2_tellingsOfTrial_8 : decode cX2_tellingsOfTrial 8 = .ok (.iload_n 1, 1) := by decide +kernel
theorem dX2_tellingsOfTrial_9 : decode cX2_tellingsOfTrial 9 = .ok (.invokevirtual 122, 3) := by decide +kernel
theorem dX2_tellingsOfTrial_12 : decode cX2_tellingsOfTrial 12 = .ok (.aload_n 0, 1) := by decide +kernel
theorem dX2_tellingsOfTrial_13 : decode cX2_tellingsOfTrial 13 = .ok (.getfield 23, 3) := by decide +kernel
theorem dX2_tellingsOfTrial_16 : decode cX2_tellingsOfTrial 16 = .ok (.aload_n 0, 1) := by decide +kernel
theorem dX2_tellingsOfTrial_17 : decode cX2_tellingsOfTrial 17 = .ok (.getfield 10, 3) := by decide +kernel
theorem dX2_tellingsOfTrial_20 : decode cX2_tellingsOfTrial 20 = .ok (.invokevirtual 126, 3) := by decide +kernel
theorem dX2_tellingsOfTrial_23 : decode cX2_tellingsOfTrial 23 = .ok (.invokevirtual 114, 3) := by decide +kernel
theorem dX2_tellingsOfTrial_26 : decode cX2_tellingsOfTrial 26 = .ok (.ireturn, 1) := by decide +kernel
theorem dX2_needFable_0 : decode cX2_needFable 0 = .ok (.iload_n 1, 1) := by decide +kernel
theorem dX2_needFable_1 : decode cX2_needFable 1 = .ok (.ifCond .lt 14, 3) := by decide +kernel
theorem dX2_needFable_4 : decode cX2_needFable 4 = .ok (.iload_n 1, 1) := by decide +kernel
theorem dX2_needFable_5 : decode cX2_needFable 5 = .ok (.aload_n 0, 1) := by decide +kernel
theorem dX2_needFable_6 : decode cX2_needFable 6 = .ok (.getfield 10, 3) := by decide +kernel
theorem dX2_needFable_9 : decode cX2_needFable 9 = .ok (.getfield 146, 3) := by decide +kernel
theorem dX2_needFable_12 : decode cX2_needFable 12 = .ok (.if_icmp .lt 13, 3) := by decide +kernel
theorem dX2_needFable_15 : decode cX2_needFable 15 = .ok (.new 238, 3) := by decide +kernel
theorem dX2_needFable_18 : decode cX2_needFable 18 = .ok (.dup, 1) := by decide +kernel
theorem dX2_needFable_19 : decode cX2_needFable 19 = .ok (.ldc 240, 2) := by decide +kernel
theorem dX2_needFable_21 : decode cX2_needFable 21 = .ok (.invokespecial 242, 3) := by decide +kernel
theorem dX2_needFable_24 : decode cX2_needFable 24 = .ok (.athrow, 1) := by decide +kernel
theorem dX2_needFable_25 : decode cX2_needFable 25 = .ok (.return_, 1) := by decide +kernel
theorem dX2_needFreePage_0 : decode cX2_needFreePage 0 = .ok (.aload_n 0, 1) := by decide +kernel
theorem dX2_needFreePage_1 : decode cX2_needFreePage 1 = .ok (.getfield 10, 3) := by decide +kernel
theorem dX2_needFreePage_4 : decode cX2_needFreePage 4 = .ok (.getfield 146, 3) := by decide +kernel
theorem dX2_needFreePage_7 : decode cX2_needFreePage 7 = .ok (.bipush 20, 2) := by decide +kernel
theorem dX2_needFreePage_9 : decode cX2_needFreePage 9 = .ok (.if_icmp .lt 13, 3) := by decide +kernel
theorem dX2_needFreePage_12 : decode cX2_needFreePage 12 = .ok (.new 58, 3) := by decide +kernel
theorem dX2_needFreePage_15 : decode cX2_needFreePage 15 = .ok (.dup, 1) := by decide +kernel
theorem dX2_needFreePage_16 : decode cX2_needFreePage 16 = .ok (.ldc 243, 2) := by decide +kernel
theorem dX2_needFreePage_18 : decode cX2_needFreePage 18 = .ok (.invokespecial 62, 3) := by decide +kernel
theorem dX2_needFreePage_21 : decode cX2_needFreePage 21 = .ok (.athrow, 1) := by decide +kernel
theorem dX2_needFreePage_22 : decode cX2_needFreePage 22 = .ok (.return_, 1) := by decide +kernel
theorem dX2_needMoral_0 : decode cX2_needMoral 0 = .ok (.iload_n 0, 1) := by decide +kernel
theorem dX2_needMoral_1 : decode cX2_needMoral 1 = .ok (.ifCond .lt 9, 3) := by decide +kernel
theorem dX2_needMoral_4 : decode cX2_needMoral 4 = .ok (.iload_n 0, 1) := by decide +kernel
theorem dX2_needMoral_5 : decode cX2_needMoral 5 = .ok (.bipush 10, 2) := by decide +kernel
theorem dX2_needMoral_7 : decode cX2_needMoral 7 = .ok (.if_icmp .lt 13, 3) := by decide +kernel
theorem dX2_needMoral_10 : decode cX2_needMoral 10 = .ok (.new 238, 3) := by decide +kernel
theorem dX2_needMoral_13 : decode cX2_needMoral 13 = .ok (.dup, 1) := by decide +kernel
theorem dX2_needMoral_14 : decode cX2_needMoral 14 = .ok (.ldc 245, 2) := by decide +kernel
theorem dX2_needMoral_16 : decode cX2_needMoral 16 = .ok (.invokespecial 242, 3) := by decide +kernel
theorem dX2_needMoral_19 : decode cX2_needMoral 19 = .ok (.athrow, 1) := by decide +kernel
theorem dX2_needMoral_20 : decode cX2_needMoral 20 = .ok (.return_, 1) := by decide +kernel
theorem dX2_needBeast_0 : decode cX2_needBeast 0 = .ok (.iload_n 0, 1) := by decide +kernel
theorem dX2_needBeast_1 : decode cX2_needBeast 1 = .ok (.ifCond .lt 9, 3) := by decide +kernel
theorem dX2_needBeast_4 : decode cX2_needBeast 4 = .ok (.iload_n 0, 1) := by decide +kernel
theorem dX2_needBeast_5 : decode cX2_needBeast 5 = .ok (.bipush 12, 2) := by decide +kernel
theorem dX2_needBeast_7 : decode cX2_needBeast 7 = .ok (.if_icmp .lt 13, 3) := by decide +kernel
theorem dX2_needBeast_10 : decode cX2_needBeast 10 = .ok (.new 238, 3) := by decide +kernel
theorem dX2_needBeast_13 : decode cX2_needBeast 13 = .ok (.dup, 1) := by decide +kernel
theorem dX2_needBeast_14 : decode cX2_needBeast 14 = .ok (.ldc 247, 2) := by decide +kernel
theorem dX2_needBeast_16 : decode cX2_needBeast 16 = .ok (.invokespecial 242, 3) := by decide +kernel
theorem dX2_needBeast_19 : decode cX2_needBeast 19 = .ok (.athrow, 1) := by decide +kernel
theorem dX2_needBeast_20 : decode cX2_needBeast 20 = .ok (.return_, 1) := by decide +kernel
theorem dX2_needValley_0 : decode cX2_needValley 0 = .ok (.iload_n 0, 1) := by decide +kernel
theorem dX2_needValley_1 : decode cX2_needValley 1 = .ok (.ifCond .lt 9, 3) := by decide +kernel
theorem dX2_needValley_4 : decode cX2_needValley 4 = .ok (.iload_n 0, 1) := by decide +kernel
theorem dX2_needValley_5 : decode cX2_needValley 5 = .ok (.bipush 6, 2) := by decide +kernel
theorem dX2_needValley_7 : decode cX2_needValley 7 = .ok (.if_icmp .lt 13, 3) := by decide +kernel
theorem dX2_needValley_10 : decode cX2_needValley 10 = .ok (.new 238, 3) := by decide +kernel
theorem dX2_needValley_13 : decode cX2_needValley 13 = .ok (.dup, 1) := by decide +kernel
theorem dX2_needValley_14 : decode cX2_needValley 14 = .ok (.ldc 249, 2) := by decide +kernel
theorem dX2_needValley_16 : decode cX2_needValley 16 = .ok (.invokespecial 242, 3) := by decide +kernel
theorem dX2_needValley_19 : decode cX2_needValley 19 = .ok (.athrow, 1) := by decide +kernel
theorem dX2_needValley_20 : decode cX2_needValley 20 = .ok (.return_, 1) := by decide +kernel
theorem dX2_needSeasons_0 : decode cX2_needSeasons 0 = .ok (.iload_n 0, 1) := by decide +kernel
theorem dX2_needSeasons_1 : decode cX2_needSeasons 1 = .ok (.iconst 1, 1) := by decide +kernel
theorem dX2_needSeasons_2 : decode cX2_needSeasons 2 = .ok (.if_icmp .lt 8, 3) := by decide +kernel
theorem dX2_needSeasons_5 : decode cX2_needSeasons 5 = .ok (.iload_n 0, 1) := by decide +kernel
theorem dX2_needSeasons_6 : decode cX2_needSeasons 6 = .ok (.iload_n 1, 1) := by decide +kernel
theorem dX2_needSeasons_7 : decode cX2_needSeasons 7 = .ok (.if_icmp .le 13, 3) := by decide +kernel
theorem dX2_needSeasons_10 : decode cX2_needSeasons 10 = .ok (.new 85, 3) := by decide +kernel
theorem dX2_needSeasons_13 : decode cX2_needSeasons 13 = .ok (.dup, 1) := by decide +kernel
theorem dX2_needSeasons_14 : decode cX2_needSeasons 14 = .ok (.ldc 251, 2) := by decide +kernel
theorem dX2_needSeasons_16 : decode cX2_needSeasons 16 = .ok (.invokespecial 89, 3) := by decide +kernel
theorem dX2_needSeasons_19 : decode cX2_needSeasons 19 = .ok (.athrow, 1) := by decide +kernel
theorem dX2_needSeasons_20 : decode cX2_needSeasons 20 = .ok (.return_, 1) := by decide +kernel
theorem dX2_has_0 : decode cX2_has 0 = .ok (.iload_n 0, 1) := by decide +kernel
theorem dX2_has_1 : decode cX2_has 1 = .ok (.iload_n 1, 1) := by decide +kernel
theorem dX2_has_2 : decode cX2_has 2 = .ok (.ishr, 1) := by decide +kernel
theorem dX2_has_3 : decode cX2_has 3 = .ok (.iconst 1, 1) := by decide +kernel
theorem dX2_has_4 : decode cX2_has 4 = .ok (.iand, 1) := by decide +kernel
theorem dX2_has_5 : decode cX2_has 5 = .ok (.ifCond .eq 7, 3) := by decide +kernel
theorem dX2_has_8 : decode cX2_has 8 = .ok (.iconst 1, 1) := by decide +kernel
theorem dX2_has_9 : decode cX2_has 9 = .ok (.goto 4, 3) := by decide +kernel
theorem dX2_has_12 : decode cX2_has 12 = .ok (.iconst 0, 1) := by decide +kernel
theorem dX2_has_13 : decode cX2_has 13 = .ok (.ireturn, 1) := by decide +kernel
theorem dX2_turned_0 : decode cX2_turned 0 = .ok (.iload_n 0, 1) := by decide +kernel
theorem dX2_turned_1 : decode cX2_turned 1 = .ok (.iconst 1, 1) := by decide +kernel
theorem dX2_turned_2 : decode cX2_turned 2 = .ok (.iload_n 1, 1) := by decide +kernel
theorem dX2_turned_3 : decode cX2_turned 3 = .ok (.ishl, 1) := by decide +kernel
theorem dX2_turned_4 : decode cX2_turned 4 = .ok (.ixor, 1) := by decide +kernel
theorem dX2_turned_5 : decode cX2_turned 5 = .ok (.ireturn, 1) := by decide +kernel
set_option maxRecDepth 20000 in
theorem ggX2_size_J6_bitCount_0f7a4 : GoodIn wsX2_size wsJ6_bitCount_0f7a4 := goodIn_r _ [4, 5, 6, 7] (by decide +kernel) (by decide +kernel)
set_option maxRecDepth 20000 in
theorem gX2_size_J6_bitCount_0f7a4 : GoodIn wsX2_size (va_wsS RX2 253 yJ6_bitCount_0f7a4 wsJ6_bitCount_0f7a4) := goodIn_app (goodIn_of _ (by decide +kernel)) ggX2_size_J6_bitCount_0f7a4
theorem dX2_size_0 : decode cX2_size 0 = .ok (.iload_n 0, 1) := by decide +kernel
theorem dX2_size_1 : decode cX2_size 1 = .ok (.invokestatic 253, 3) := by decide +kernel
theorem dX2_size_4 : decode cX2_size 4 = .ok (.ireturn, 1) := by decide +kernel
set_option maxRecDepth 20000 in
theorem ggX2_greatest_X2_has : GoodIn wsX2_greatest wsX2_has := goodIn_r _ [4] (by decide +kernel) (by decide +kernel)
set_option maxRecDepth 20000 in
theorem gX2_greatest_X2_has : GoodIn wsX2_greatest (va_wsS RX2 54 yX2_has wsX2_has) := goodIn_app (goodIn_of _ (by decide +kernel)) ggX2_greatest_X2_has
theorem dX2_greatest_0 : decode cX2_greatest 0 = .ok (.bipush 19, 2) := by decide +kernel
theorem dX2_greatest_2 : decode cX2_greatest 2 = .ok (.istore_n 1, 1) := by decide +kernel
theorem dX2_greatest_3 : decode cX2_greatest 3 = .ok (.iload_n 1, 1) := by decide +kernel
theorem dX2_greatest_4 : decode cX2_greatest 4 = .ok (.ifCond .lt 19, 3) := by decide +kernel
theorem dX2_greatest_7 : decode cX2_greatest 7 = .ok (.iload_n 0, 1) := by decide +kernel
theorem dX2_greatest_8 : decode cX2_greatest 8 = .ok (.iload_n 1, 1) := by decide +kernel
theorem dX2_greatest_9 : decode cX2_greatest 9 = .ok (.invokestatic 54, 3) := by decide +kernel
theorem dX2_greatest_12 : decode cX2_greatest 12 = .ok (.ifCond .eq 5, 3) := by decide +kernel
theorem dX2_greatest_15 : decode cX2_greatest 15 = .ok (.iload_n 1, 1) := by decide +kernel
theorem dX2_greatest_16 : decode cX2_greatest 16 = .ok (.ireturn, 1) := by decide +kernel
theorem dX2_greatest_17 : decode cX2_greatest 17 = .ok (.iinc 1 (-1), 3) := by decide +kernel
theorem dX2_greatest_20 : decode cX2_greatest 20 = .ok (.goto (-17), 3) := by decide +kernel
theorem dX2_greatest_23 : decode cX2_greatest 23 = .ok (.iconst (-1), 1) := by decide +kernel
theorem dX2_greatest_24 : decode cX2_greatest 24 = .ok (.ireturn, 1) := by decide +kernel
theorem dX2_smallestAlone_0 : decode cX2_smallestAlone 0 = .ok (.iload_n 0, 1) := by decide +kernel
theorem dX2_smallestAlone_1 : decode cX2_smallestAlone 1 = .ok (.iload_n 0, 1) := by decide +kernel
theorem dX2_smallestAlone_2 : decode cX2_smallestAlone 2 = .ok (.ineg, 1) := by decide +kernel
theorem dX2_smallestAlone_3 : decode cX2_smallestAlone 3 = .ok (.iand, 1) := by decide +kernel
theorem dX2_smallestAlone_4 : decode cX2_smallestAlone 4 = .ok (.ireturn, 1) := by decide +kernel
end
section
theorem dX3_init_0 : decode cX3_init 0 = .ok (.aload_n 0, 1) := by decide +kernel
theorem dX3_init_1 : decode cX3_init 1 = .ok (.invokespecial 1, 3) := by decide +kernel
theorem dX3_init_4 : decode cX3_init 4 = .ok (.aload_n 0, 1) := by decide +kernel
theorem dX3_init_5 : decode cX3_init 5 = .ok (.bipush 20, 2) := by decide +kernel
theorem dX3_init_7 : decode cX3_init 7 = .ok (.newarray .int, 2) := by decide +kernel
theorem dX3_init_9 : decode cX3_init 9 = .ok (.putfield 9, 3) := by decide +kernel
theorem dX3_init_12 : decode cX3_init 12 = .ok (.aload_n 0, 1) := by decide +kernel
theorem dX3_init_13 : decode cX3_init 13 = .ok (.bipush 20, 2) := by decide +kernel
theorem dX3_init_15 : decode cX3_init 15 = .ok (.newarray .int, 2) := by decide +kernel
theorem dX3_init_17 : decode cX3_init 17 = .ok (.putfield 13, 3) := by decide +kernel
theorem dX3_init_20 : decode cX3_init 20 = .ok (.aload_n 0, 1) := by decide +kernel
theorem dX3_init_21 : decode cX3_init 21 = .ok (.bipush 20, 2) := by decide +kernel
theorem dX3_init_23 : decode cX3_init 23 = .ok (.newarray .int, 2) := by decide +kernel
theorem dX3_init_25 : decode cX3_init 25 = .ok (.putfield 16, 3) := by decide +kernel
theorem dX3_init_28 : decode cX3_init 28 = .ok (.aload_n 0, 1) := by decide +kernel
theorem dX3_init_29 : decode cX3_init 29 = .ok (.bipush 20, 2) := by decide +kernel
theorem dX3_init_31 : decode cX3_init 31 = .ok (.newarray .int, 2) := by decide +kernel
theorem dX3_init_33 : decode cX3_init 33 = .ok (.putfield 19, 3) := by decide +kernel
theorem dX3_init_36 : decode cX3_init 36 = .ok (.aload_n 0, 1) := by decide +kernel
theorem dX3_init_37 : decode cX3_init 37 = .ok (.bipush 6, 2) := by decide +kernel
theorem dX3_init_39 : decode cX3_init 39 = .ok (.newarray .int, 2) := by decide +kernel
theorem dX3_init_41 : decode cX3_init 41 = .ok (.putfield 22, 3) := by decide +kernel
theorem dX3_init_44 : decode cX3_init 44 = .ok (.aload_n 0, 1) := by decide +kernel
theorem dX3_init_45 : decode cX3_init 45 = .ok (.bipush 6, 2) := by decide +kernel
theorem dX3_init_47 : decode cX3_init 47 = .ok (.newarray .int, 2) := by decide +kernel
theorem dX3_init_49 : decode cX3_init 49 = .ok (.putfield 25, 3) := by decide +kernel
theorem dX3_init_52 : decode cX3_init 52 = .ok (.aload_n 0, 1) := by decide +kernel
theorem dX3_init_53 : decode cX3_init 53 = .ok (.bipush 6, 2) := by decide +kernel
theorem dX3_init_55 : decode cX3_init 55 = .ok (.newarray .int, 2) := by decide +kernel
theorem dX3_init_57 : decode cX3_init 57 = .ok (.putfield 28, 3) := by decide +kernel
theorem dX3_init_60 : decode cX3_init 60 = .ok (.aload_n 0, 1) := by decide +kernel
theorem dX3_init_61 : decode cX3_init 61 = .ok (.bipush 6, 2) := by decide +kernel
theorem dX3_init_63 : decode cX3_init 63 = .ok (.newarray .int, 2) := by decide +kernel
theorem dX3_init_65 : decode cX3_init 65 = .ok (.putfield 31, 3) := by decide +kernel
theorem dX3_init_68 : decode cX3_init 68 = .ok (.aload_n 0, 1) := by decide +kernel
theorem dX3_init_69 : decode cX3_init 69 = .ok (.bipush 6, 2) := by decide +kernel
theorem dX3_init_71 : decode cX3_init 71 = .ok (.newarray .int, 2) := by decide +kernel
theorem dX3_init_73 : decode cX3_init 73 = .ok (.putfield 34, 3) := by decide +kernel
theorem dX3_init_76 : decode cX3_init 76 = .ok (.aload_n 0, 1) := by decide +kernel
theorem dX3_init_77 : decode cX3_init 77 = .ok (.bipush 6, 2) := by decide +kernel
theorem dX3_init_79 : decode cX3_init 79 = .ok (.newarray .int, 2) := by decide +kernel
theorem dX3_init_81 : decode cX3_init 81 = .ok (.putfield 37, 3) := by decide +kernel
theorem dX3_init_84 : decode cX3_init 84 = .ok (.return_, 1) := by decide +kernel
theorem dX3_thrown_0 : decode cX3_thrown 0 = .ok (.aload_n 0, 1) := by decide +kernel
theorem dX3_thrown_1 : decode cX3_thrown 1 = .ok (.getfield 40, 3) := by decide +kernel
theorem dX3_thrown_4 : decode cX3_thrown 4 = .ok (.ireturn, 1) := by decide +kernel
theorem dX3_fail_0 : decode cX3_fail 0 = .ok (.aload_n 0, 1) := by decide +kernel
theorem dX3_fail_1 : decode cX3_fail 1 = .ok (.iload_n 1, 1) := by decide +kernel
theorem dX3_fail_2 : decode cX3_fail 2 = .ok (.putfield 40, 3) := by decide +kernel
theorem dX3_fail_5 : decode cX3_fail 5 = .ok (.iconst 0, 1) := by decide +kernel
theorem dX3_fail_6 : decode cX3_fail 6 = .ok (.ireturn, 1) := by decide +kernel
theorem dX3_failed_0 : decode cX3_failed 0 = .ok (.aload_n 0, 1) := by decide +kernel
theorem dX3_failed_1 : decode cX3_failed 1 = .ok (.iload_n 1, 1) := by decide +kernel
theorem dX3_failed_2 : decode cX3_failed 2 = .ok (.putfield 40, 3) := by decide +kernel
theorem dX3_failed_5 : decode cX3_failed 5 = .ok (.iconst 0, 1) := by decide +kernel
theorem dX3_failed_6 : decode cX3_failed 6 = .ok (.ireturn, 1) := by decide +kernel
theorem dX3_isIn_0 : decode cX3_isIn 0 = .ok (.iload_n 0, 1) := by decide +kernel
theorem dX3_isIn_1 : decode cX3_isIn 1 = .ok (.iload_n 1, 1) := by decide +kernel
theorem dX3_isIn_2 : decode cX3_isIn 2 = .ok (.if_icmp .lt 12, 3) := by decide +kernel
theorem dX3_isIn_5 : decode cX3_isIn 5 = .ok (.iload_n 0, 1) := by decide +kernel
theorem dX3_isIn_6 : decode cX3_isIn 6 = .ok (.iload_n 2, 1) := by decide +kernel
theorem dX3_isIn_7 : decode cX3_isIn 7 = .ok (.if_icmp .gt 7, 3) := by decide +kernel
theorem dX3_isIn_10 : decode cX3_isIn 10 = .ok (.iconst 1, 1) := by decide +kernel
theorem dX3_isIn_11 : decode cX3_isIn 11 = .ok (.goto 4, 3) := by decide +kernel
theorem dX3_isIn_14 : decode cX3_isIn 14 = .ok (.iconst 0, 1) := by decide +kernel
theorem dX3_isIn_15 : decode cX3_isIn 15 = .ok (.ireturn, 1) := by decide +kernel
set_option maxRecDepth 20000 in
theorem ggX3_isFable_X3_isIn : GoodIn wsX3_isFable wsX3_isIn := goodIn_r _ [5] (by decide +kernel) (by decide +kernel)
set_option maxRecDepth 20000 in
theorem gX3_isFable_X3_isIn : GoodIn wsX3_isFable (va_wsS RX3 47 yX3_isIn wsX3_isIn) := goodIn_app (goodIn_of _ (by decide +kernel)) ggX3_isFable_X3_isIn
theorem dX3_isFable_0 : decode cX3_isFable 0 = .ok (.iload_n 1, 1) := by decide +kernel
theorem dX3_isFable_1 : decode cX3_isFable 1 = .ok (.iconst 0, 1) := by decide +kernel
theorem dX3_isFable_2 : decode cX3_isFable 2 = .ok (.aload_n 0, 1) := by decide +kernel
theorem dX3_isFable_3 : decode cX3_isFable 3 = .ok (.getfield 44, 3) := by decide +kernel
theorem dX3_isFable_6 : decode cX3_isFable 6 = .ok (.iconst 1, 1) := by decide +kernel
theorem dX3_isFable_7 : decode cX3_isFable 7 = .ok (.isub, 1) := by decide +kernel
theorem dX3_isFable_8 : decode cX3_isFable 8 = .ok (.invokestatic 47, 3) := by decide +kernel
theorem dX3_isFable_11 : decode cX3_isFable 11 = .ok (.ireturn, 1) := by decide +kernel
set_option maxRecDepth 20000 in
theorem ggX3_isValley_X3_isIn : GoodIn wsX3_isValley wsX3_isIn := goodIn_r _ [4] (by decide +kernel) (by decide +kernel)
set_option maxRecDepth 20000 in
theorem gX3_isValley_X3_isIn : GoodIn wsX3_isValley (va_wsS RX3 47 yX3_isIn wsX3_isIn) := goodIn_app (goodIn_of _ (by decide +kernel)) ggX3_isValley_X3_isIn
theorem dX3_isValley_0 : decode cX3_isValley 0 = .ok (.iload_n 0, 1) := by decide +kernel
theorem dX3_isValley_1 : decode cX3_isValley 1 = .ok (.iconst 0, 1) := by decide +kernel
theorem dX3_isValley_2 : decode cX3_isValley 2 = .ok (.iconst 5, 1) := by decide +kernel
theorem dX3_isValley_3 : decode cX3_isValley 3 = .ok (.invokestatic 47, 3) := by decide +kernel
theorem dX3_isValley_6 : decode cX3_isValley 6 = .ok (.ireturn, 1) := by decide +kernel
set_option maxRecDepth 20000 in
theorem ggX3_isBeast_X3_isIn : GoodIn wsX3_isBeast wsX3_isIn := goodIn_r _ [4] (by decide +kernel) (by decide +kernel)
set_option maxRecDepth 20000 in
theorem gX3_isBeast_X3_isIn : GoodIn wsX3_isBeast (va_wsS RX3 47 yX3_isIn wsX3_isIn) := goodIn_app (goodIn_of _ (by decide +kernel)) ggX3_isBeast_X3_isIn
theorem dX3_isBeast_0 : decode cX3_isBeast 0 = .ok (.iload_n 0, 1) := by decide +kernel
theorem dX3_isBeast_1 : decode cX3_isBeast 1 = .ok (.iconst 0, 1) := by decide +kernel
theorem dX3_isBeast_2 : decode cX3_isBeast 2 = .ok (.bipush 11, 2) := by decide +kernel
theorem dX3_isBeast_4 : decode cX3_isBeast 4 = .ok (.invokestatic 47, 3) := by decide +kernel
theorem dX3_isBeast_7 : decode cX3_isBeast 7 = .ok (.ireturn, 1) := by decide +kernel
set_option maxRecDepth 20000 in
theorem ggX3_isMoral_X3_isIn : GoodIn wsX3_isMoral wsX3_isIn := goodIn_r _ [4] (by decide +kernel) (by decide +kernel)
set_option maxRecDepth 20000 in
theorem gX3_isMoral_X3_isIn : GoodIn wsX3_isMoral (va_wsS RX3 47 yX3_isIn wsX3_isIn) := goodIn_app (goodIn_of _ (by decide +kernel)) ggX3_isMoral_X3_isIn
theorem dX3_isMoral_0 : decode cX3_isMoral 0 = .ok (.iload_n 0, 1) := by decide +kernel
theorem dX3_isMoral_1 : decode cX3_isMoral 1 = .ok (.iconst 0, 1) := by decide +kernel
theorem dX3_isMoral_2 : decode cX3_isMoral 2 = .ok (.bipush 9, 2) := by decide +kernel
theorem dX3_isMoral_4 : decode cX3_isMoral 4 = .ok (.invokestatic 47, 3) := by decide +kernel
theorem dX3_isMoral_7 : decode cX3_isMoral 7 = .ok (.ireturn, 1) := by decide +kernel
theorem dX3_has_0 : decode cX3_has 0 = .ok (.iload_n 0, 1) := by decide +kernel
theorem dX3_has_1 : decode cX3_has 1 = .ok (.iload_n 1, 1) := by decide +kernel
theorem dX3_has_2 : decode cX3_has 2 = .ok (.ishr, 1) := by decide +kernel
theorem dX3_has_3 : decode cX3_has 3 = .ok (.iconst 1, 1) := by decide +kernel
theorem dX3_has_4 : decode cX3_has 4 = .ok (.iand, 1) := by decide +kernel
theorem dX3_has_5 : decode cX3_has 5 = .ok (.iconst 1, 1) := by decide +kernel
theorem dX3_has_6 : decode cX3_has 6 = .ok (.if_icmp .ne 7, 3) := by decide +kernel
theorem dX3_has_9 : decode cX3_has 9 = .ok (.iconst 1, 1) := by decide +kernel
theorem dX3_has_10 : decode cX3_has 10 = .ok (.goto 4, 3) := by decide +kernel
theorem dX3_has_13 : decode cX3_has 13 = .ok (.iconst 0, 1) := by decide +kernel
theorem dX3_has_14 : decode cX3_has 14 = .ok (.ireturn, 1) := by decide +kernel
theorem dX3_many_0 : decode cX3_many 0 = .ok (.iconst 0, 1) := by decide +kernel
theorem dX3_many_1 : decode cX3_many 1 = .ok (.istore_n 1, 1) := by decide +kernel
theorem dX3_many_2 : decode cX3_many 2 = .ok (.iload_n 0, 1) := by decide +kernel
theorem dX3_many_3 : decode cX3_many 3 = .ok (.istore_n 2, 1) := by decide +kernel
theorem dX3_many_4 : decode cX3_many 4 = .ok (.iload_n 2, 1) := by decide +kernel
theorem dX3_many_5 : decode cX3_many 5 = .ok (.ifCond .eq 15, 3) := by decide +kernel
theorem dX3_many_8 : decode cX3_many 8 = .ok (.iinc 1 1, 3) := by decide +kernel
theorem dX3_many_11 : decode cX3_many 11 = .ok (.iload_n 2, 1) := by decide +kernel
theorem dX3_many_12 : decode cX3_many 12 = .ok (.iload_n 2, 1) := by decide +kernel
theorem dX3_many_13 : decode cX3_many 13 = .ok (.iconst 1, 1) := by decide +kernel
theorem dX3_many_14 : decode cX3_many 14 = .ok (.isub, 1) := by decide +kernel
theorem dX3_many_15 : decode cX3_many 15 = .ok (.iand, 1) := by decide +kernel
theorem dX3_many_16 : decode cX3_many 16 = .ok (.istore_n 2, 1) := by decide +kernel
theorem dX3_many_17 : decode cX3_many 17 = .ok (.goto (-13), 3) := by decide +kernel
theorem dX3_many_20 : decode cX3_many 20 = .ok (.iload_n 1, 1) := by decide +kernel
theorem dX3_many_21 : decode cX3_many 21 = .ok (.ireturn, 1) := by decide +kernel
set_option maxRecDepth 20000 in
theorem ggX3_banned_X3_has : GoodIn wsX3_banned wsX3_has := goodIn_r _ [8] (by decide +kernel) (by decide +kernel)
set_option maxRecDepth 20000 in
theorem gX3_banned_X3_has : GoodIn wsX3_banned (va_wsS RX3 51 yX3_has wsX3_has) := goodIn_app (goodIn_of _ (by decide +kernel)) ggX3_banned_X3_has
theorem dX3_banned_0 : decode cX3_banned 0 = .ok (.aload_n 0, 1) := by decide +kernel
theorem dX3_banned_1 : decode cX3_banned 1 = .ok (.getfield 25, 3) := by decide +kernel
theorem dX3_banned_4 : decode cX3_banned 4 = .ok (.iload_n 2, 1) := by decide +kernel
theorem dX3_banned_5 : decode cX3_banned 5 = .ok (.iaload, 1) := by decide +kernel
theorem dX3_banned_6 : decode cX3_banned 6 = .ok (.aload_n 0, 1) := by decide +kernel
theorem dX3_banned_7 : decode cX3_banned 7 = .ok (.getfield 9, 3) := by decide +kernel
theorem dX3_banned_10 : decode cX3_banned 10 = .ok (.iload_n 1, 1) := by decide +kernel
theorem dX3_banned_11 : decode cX3_banned 11 = .ok (.iaload, 1) := by decide +kernel
theorem dX3_banned_12 : decode cX3_banned 12 = .ok (.invokestatic 51, 3) := by decide +kernel
theorem dX3_banned_15 : decode cX3_banned 15 = .ok (.ifCond .ne 19, 3) := by decide +kernel
theorem dX3_banned_18 : decode cX3_banned 18 = .ok (.aload_n 0, 1) := by decide +kernel
theorem dX3_banned_19 : decode cX3_banned 19 = .ok (.getfield 28, 3) := by decide +kernel
theorem dX3_banned_22 : decode cX3_banned 22 = .ok (.iload_n 2, 1) := by decide +kernel
theorem dX3_banned_23 : decode cX3_banned 23 = .ok (.iaload, 1) := by decide +kernel
theorem dX3_banned_24 : decode cX3_banned 24 = .ok (.aload_n 0, 1) := by decide +kernel
theorem dX3_banned_25 : decode cX3_banned 25 = .ok (.getfield 13, 3) := by decide +kernel
theorem dX3_banned_28 : decode cX3_banned 28 = .ok (.iload_n 1, 1) := by decide +kernel
theorem dX3_banned_29 : decode cX3_banned 29 = .ok (.iaload, 1) := by decide +kernel
theorem dX3_banned_30 : decode cX3_banned 30 = .ok (.iand, 1) := by decide +kernel
theorem dX3_banned_31 : decode cX3_banned 31 = .ok (.ifCond .eq 7, 3) := by decide +kernel
theorem dX3_banned_34 : decode cX3_banned 34 = .ok (.iconst 1, 1) := by decide +kernel
theorem dX3_banned_35 : decode cX3_banned 35 = .ok (.goto 4, 3) := by decide +kernel
theorem dX3_banned_38 : decode cX3_banned 38 = .ok (.iconst 0, 1) := by decide +kernel
theorem dX3_banned_39 : decode cX3_banned 39 = .ok (.ireturn, 1) := by decide +kernel
theorem dX3_write_0 : decode cX3_write 0 = .ok (.aload_n 0, 1) := by decide +kernel
theorem dX3_write_1 : decode cX3_write 1 = .ok (.getfield 9, 3) := by decide +kernel
theorem dX3_write_4 : decode cX3_write 4 = .ok (.aload_n 0, 1) := by decide +kernel
theorem dX3_write_5 : decode cX3_write 5 = .ok (.getfield 44, 3) := by decide +kernel
theorem dX3_write_8 : decode cX3_write 8 = .ok (.iload_n 1, 1) := by decide +kernel
theorem dX3_write_9 : decode cX3_write 9 = .ok (.iastore, 1) := by decide +kernel
theorem dX3_write_10 : decode cX3_write 10 = .ok (.aload_n 0, 1) := by decide +kernel
theorem dX3_write_11 : decode cX3_write 11 = .ok (.getfield 13, 3) := by decide +kernel
theorem dX3_write_14 : decode cX3_write 14 = .ok (.aload_n 0, 1) := by decide +kernel
theorem dX3_write_15 : decode cX3_write 15 = .ok (.getfield 44, 3) := by decide +kernel
theorem dX3_write_18 : decode cX3_write 18 = .ok (.iload_n 2, 1) := by decide +kernel
theorem dX3_write_19 : decode cX3_write 19 = .ok (.iastore, 1) := by decide +kernel
theorem dX3_write_20 : decode cX3_write 20 = .ok (.aload_n 0, 1) := by decide +kernel
theorem dX3_write_21 : decode cX3_write 21 = .ok (.getfield 16, 3) := by decide +kernel
theorem dX3_write_24 : decode cX3_write 24 = .ok (.aload_n 0, 1) := by decide +kernel
theorem dX3_write_25 : decode cX3_write 25 = .ok (.getfield 44, 3) := by decide +kernel
theorem dX3_write_28 : decode cX3_write 28 = .ok (.iload_n 3, 1) := by decide +kernel
theorem dX3_write_29 : decode cX3_write 29 = .ok (.iastore, 1) := by decide +kernel
theorem dX3_write_30 : decode cX3_write 30 = .ok (.aload_n 0, 1) := by decide +kernel
theorem dX3_write_31 : decode cX3_write 31 = .ok (.getfield 19, 3) := by decide +kernel
theorem dX3_write_34 : decode cX3_write 34 = .ok (.aload_n 0, 1) := by decide +kernel
theorem dX3_write_35 : decode cX3_write 35 = .ok (.getfield 44, 3) := by decide +kernel
theorem dX3_write_38 : decode cX3_write 38 = .ok (.iload 4, 2) := by decide +kernel
theorem dX3_write_40 : decode cX3_write 40 = .ok (.iastore, 1) := by decide +kernel
theorem dX3_write_41 : decode cX3_write 41 = .ok (.aload_n 0, 1) := by decide +kernel
theorem dX3_write_42 : decode cX3_write 42 = .ok (.dup, 1) := by decide +kernel
theorem dX3_write_43 : decode cX3_write 43 = .ok (.getfield 44, 3) := by decide +kernel
theorem dX3_write_46 : decode cX3_write 46 = .ok (.iconst 1, 1) := by decide +kernel
theorem dX3_write_47 : decode cX3_write 47 = .ok (.iadd, 1) := by decide +kernel
theorem dX3_write_48 : decode cX3_write 48 = .ok (.putfield 44, 3) := by decide +kernel
theorem dX3_write_51 : decode cX3_write 51 = .ok (.aload_n 0, 1) := by decide +kernel
theorem dX3_write_52 : decode cX3_write 52 = .ok (.getfield 44, 3) := by decide +kernel
theorem dX3_write_55 : decode cX3_write 55 = .ok (.iconst 1, 1) := by decide +kernel
theorem dX3_write_56 : decode cX3_write 56 = .ok (.isub, 1) := by decide +kernel
theorem dX3_write_57 : decode cX3_write 57 = .ok (.ireturn, 1) := by decide +kernel
theorem dX3_children_0 : decode cX3_children 0 = .ok (.iconst 0, 1) := by decide +kernel
theorem dX3_children_1 : decode cX3_children 1 = .ok (.istore_n 2, 1) := by decide +kernel
theorem dX3_children_2 : decode cX3_children 2 = .ok (.iconst 0, 1) := by decide +kernel
theorem dX3_children_3 : decode cX3_children 3 = .ok (.istore_n 3, 1) := by decide +kernel
theorem dX3_children_4 : decode cX3_children 4 = .ok (.iload_n 3, 1) := by decide +kernel
theorem dX3_children_5 : decode cX3_children 5 = .ok (.aload_n 0, 1) := by decide +kernel
theorem dX3_children_6 : decode cX3_children 6 = .ok (.getfield 44, 3) := by decide +kernel
theorem dX3_children_9 : decode cX3_children 9 = .ok (.if_icmp .ge 27, 3) := by decide +kernel
theorem dX3_children_12 : decode cX3_children 12 = .ok (.iload_n 2, 1) := by decide +kernel
theorem dX3_children_13 : decode cX3_children 13 = .ok (.aload_n 0, 1) := by decide +kernel
theorem dX3_children_14 : decode cX3_children 14 = .ok (.getfield 19, 3) := by decide +kernel
theorem dX3_children_17 : decode cX3_children 17 = .ok (.iload_n 3, 1) := by decide +kernel
theorem dX3_children_18 : decode cX3_children 18 = .ok (.iaload, 1) := by decide +kernel
theorem dX3_children_19 : decode cX3_children 19 = .ok (.iload_n 1, 1) := by decide +kernel
theorem dX3_children_20 : decode cX3_children 20 = .ok (.if_icmp .ne 7, 3) := by decide +kernel
theorem dX3_children_23 : decode cX3_children 23 = .ok (.iconst 1, 1) := by decide +kernel
theorem dX3_children_24 : decode cX3_children 24 = .ok (.goto 4, 3) := by decide +kernel
theorem dX3_children_27 : decode cX3_children 27 = .ok (.iconst 0, 1) := by decide +kernel
theorem dX3_children_28 : decode cX3_children 28 = .ok (.iadd, 1) := by decide +kernel
theorem dX3_children_29 : decode cX3_children 29 = .ok (.istore_n 2, 1) := by decide +kernel
theorem dX3_children_30 : decode cX3_children 30 = .ok (.iinc 3 1, 3) := by decide +kernel
theorem dX3_children_33 : decode cX3_children 33 = .ok (.goto (-29), 3) := by decide +kernel
theorem dX3_children_36 : decode cX3_children 36 = .ok (.iload_n 2, 1) := by decide +kernel
theorem dX3_children_37 : decode cX3_children 37 = .ok (.ireturn, 1) := by decide +kernel
set_option maxRecDepth 20000 in
theorem ggX3_addFable_X3_isMoral : GoodIn wsX3_addFable wsX3_isMoral := goodIn_r _ [6, 7, 8, 5, 9] (by decide +kernel) (by decide +kernel)
set_option maxRecDepth 20000 in
theorem gX3_addFable_X3_isMoral : GoodIn wsX3_addFable (va_wsS RX3 55 yX3_isMoral wsX3_isMoral) := goodIn_app (goodIn_of _ (by decide +kernel)) ggX3_addFable_X3_isMoral
set_option maxRecDepth 20000 in
theorem ggX3_addFable_X3_isBeast : GoodIn wsX3_addFable wsX3_isBeast := goodIn_r _ [12, 7, 8, 5, 9] (by decide +kernel) (by decide +kernel)
set_option maxRecDepth 20000 in
theorem gX3_addFable_X3_isBeast : GoodIn wsX3_addFable (va_wsS RX3 59 yX3_isBeast wsX3_isBeast) := goodIn_app (goodIn_of _ (by decide +kernel)) ggX3_addFable_X3_isBeast
set_option maxRecDepth 20000 in
theorem ggX3_addFable_X3_isValley : GoodIn wsX3_addFable wsX3_isValley := goodIn_r _ [15, 7, 8, 5, 9] (by decide +kernel) (by decide +kernel)
set_option maxRecDepth 20000 in
theorem gX3_addFable_X3_isValley : GoodIn wsX3_addFable (va_wsS RX3 62 yX3_isValley wsX3_isValley) := goodIn_app (goodIn_of _ (by decide +kernel)) ggX3_addFable_X3_isValley
set_option maxRecDepth 20000 in
theorem ggX3_addFable_X3_fail : GoodIn wsX3_addFable wsX3_fail := goodIn_r _ [19, 1, 28, 29, 30, 31, 32, 33, 34, 35, 36, 37, 38, 39, 40, 41] (by decide +kernel) (by decide +kernel)
set_option maxRecDepth 20000 in
theorem gX3_addFable_X3_fail : GoodIn wsX3_addFable (wsV RX3 65 RX3 yX3_fail wsX3_fail) := goodIn_app (goodIn_of _ (by decide +kernel)) ggX3_addFable_X3_fail
set_option maxRecDepth 20000 in
theorem ggX3_addFable_X3_write : GoodIn wsX3_addFable wsX3_write := goodIn_r _ [23, 24, 2, 25, 26, 27, 28, 29, 30, 31, 32, 33, 34, 35, 36, 37, 38, 39, 40, 41] (by decide +kernel) (by decide +kernel)
set_option maxRecDepth 20000 in
theorem gX3_addFable_X3_write : GoodIn wsX3_addFable (wsV RX3 69 RX3 yX3_write wsX3_write) := goodIn_app (goodIn_of _ (by decide +kernel)) ggX3_addFable_X3_write
theorem dX3_addFable_0 : decode cX3_addFable 0 = .ok (.aload_n 0, 1) := by decide +kernel
theorem dX3_addFable_1 : decode cX3_addFable 1 = .ok (.iconst 0, 1) := by decide +kernel
theorem dX3_addFable_2 : decode cX3_addFable 2 = .ok (.putfield 40, 3) := by decide +kernel
theorem dX3_addFable_5 : decode cX3_addFable 5 = .ok (.iload_n 1, 1) := by decide +kernel
theorem dX3_addFable_6 : decode cX3_addFable 6 = .ok (.invokestatic 55, 3) := by decide +kernel
theorem dX3_addFable_9 : decode cX3_addFable 9 = .ok (.ifCond .eq 17, 3) := by decide +kernel
theorem dX3_addFable_12 : decode cX3_addFable 12 = .ok (.iload_n 2, 1) := by decide +kernel
theorem dX3_addFable_13 : decode cX3_addFable 13 = .ok (.invokestatic 59, 3) := by decide +kernel
theorem dX3_addFable_16 : decode cX3_addFable 16 = .ok (.ifCond .eq 10, 3) := by decide +kernel
theorem dX3_addFable_19 : decode cX3_addFable 19 = .ok (.iload_n 3, 1) := by decide +kernel
theorem dX3_addFable_20 : decode cX3_addFable 20 = .ok (.invokestatic 62, 3) := by decide +kernel
theorem dX3_addFable_23 : decode cX3_addFable 23 = .ok (.ifCond .ne 9, 3) := by decide +kernel
theorem dX3_addFable_26 : decode cX3_addFable 26 = .ok (.aload_n 0, 1) := by decide +kernel
theorem dX3_addFable_27 : decode cX3_addFable 27 = .ok (.iconst 1, 1) := by decide +kernel
theorem dX3_addFable_28 : decode cX3_addFable 28 = .ok (.invokevirtual 65, 3) := by decide +kernel
theorem dX3_addFable_31 : decode cX3_addFable 31 = .ok (.ireturn, 1) := by decide +kernel
theorem dX3_addFable_32 : decode cX3_addFable 32 = .ok (.aload_n 0, 1) := by decide +kernel
theorem dX3_addFable_33 : decode cX3_addFable 33 = .ok (.getfield 44, 3) := by decide +kernel
theorem dX3_addFable_36 : decode cX3_addFable 36 = .ok (.bipush 20, 2) := by decide +kernel
theorem dX3_addFable_38 : decode cX3_addFable 38 = .ok (.if_icmp .ne 11, 3) := by decide +kernel
theorem dX3_addFable_41 : decode cX3_addFable 41 = .ok (.aload_n 0, 1) := by decide +kernel
theorem dX3_addFable_42 : decode cX3_addFable 42 = .ok (.iconst 2, 1) := by decide +kernel
theorem dX3_addFable_43 : decode cX3_addFable 43 = .ok (.invokevirtual 65, 3) := by decide +kernel
theorem dX3_addFable_46 : decode cX3_addFable 46 = .ok (.goto 13, 3) := by decide +kernel
theorem dX3_addFable_49 : decode cX3_addFable 49 = .ok (.aload_n 0, 1) := by decide +kernel
theorem dX3_addFable_50 : decode cX3_addFable 50 = .ok (.iload_n 1, 1) := by decide +kernel
theorem dX3_addFable_51 : decode cX3_addFable 51 = .ok (.iconst 1, 1) := by decide +kernel
theorem dX3_addFable_52 : decode cX3_addFable 52 = .ok (.iload_n 2, 1) := by decide +kernel
theorem dX3_addFable_53 : decode cX3_addFable 53 = .ok (.ishl, 1) := by decide +kernel
theorem dX3_addFable_54 : decode cX3_addFable 54 = .ok (.iload_n 3, 1) := by decide +kernel
theorem dX3_addFable_55 : decode cX3_addFable 55 = .ok (.iconst (-1), 1) := by decide +kernel
theorem dX3_addFable_56 : decode cX3_addFable 56 = .ok (.invokevirtual 69, 3) := by decide +kernel
theorem dX3_addFable_59 : decode cX3_addFable 59 = .ok (.ireturn, 1) := by decide +kernel
set_option maxRecDepth 20000 in
theorem ggX3_addBeast_X3_isFable : GoodIn wsX3_addBeast wsX3_isFable := goodIn_r _ [7, 8, 9, 10, 6, 11, 30, 31, 32, 33, 34, 35, 36, 37, 38, 39, 40, 41, 42, 43] (by decide +kernel) (by decide +kernel)
set_option maxRecDepth 20000 in
theorem gX3_addBeast_X3_isFable : GoodIn wsX3_addBeast (wsV RX3 73 RX3 yX3_isFable wsX3_isFable) := goodIn_app (goodIn_of _ (by decide +kernel)) ggX3_addBeast_X3_isFable
set_option maxRecDepth 20000 in
theorem ggX3_addBeast_X3_isBeast : GoodIn wsX3_addBeast wsX3_isBeast := goodIn_r _ [14, 9, 10, 6, 11] (by decide +kernel) (by decide +kernel)
set_option maxRecDepth 20000 in
theorem gX3_addBeast_X3_isBeast : GoodIn wsX3_addBeast (va_wsS RX3 59 yX3_isBeast wsX3_isBeast) := goodIn_app (goodIn_of _ (by decide +kernel)) ggX3_addBeast_X3_isBeast
set_option maxRecDepth 20000 in
theorem ggX3_addBeast_X3_fail : GoodIn wsX3_addBeast wsX3_fail := goodIn_r _ [18, 1, 30, 31, 32, 33, 34, 35, 36, 37, 38, 39, 40, 41, 42, 43] (by decide +kernel) (by decide +kernel)
set_option maxRecDepth 20000 in
theorem gX3_addBeast_X3_fail : GoodIn wsX3_addBeast (wsV RX3 65 RX3 yX3_fail wsX3_fail) := goodIn_app (goodIn_of _ (by decide +kernel)) ggX3_addBeast_X3_fail
set_option maxRecDepth 20000 in
theorem ggX3_addBeast_X3_has : GoodIn wsX3_addBeast wsX3_has := goodIn_r _ [21] (by decide +kernel) (by decide +kernel)
set_option maxRecDepth 20000 in
theorem gX3_addBeast_X3_has : GoodIn wsX3_addBeast (va_wsS RX3 51 yX3_has wsX3_has) := goodIn_app (goodIn_of _ (by decide +kernel)) ggX3_addBeast_X3_has
set_option maxRecDepth 20000 in
theorem ggX3_addBeast_X3_children : GoodIn wsX3_addBeast wsX3_children := goodIn_r _ [25, 8, 26, 30, 31, 32, 33, 34, 35, 36, 37, 38, 39, 40, 41, 42, 43] (by decide +kernel) (by decide +kernel)
set_option maxRecDepth 20000 in
theorem gX3_addBeast_X3_children : GoodIn wsX3_addBeast (wsV RX3 76 RX3 yX3_children wsX3_children) := goodIn_app (goodIn_of _ (by decide +kernel)) ggX3_addBeast_X3_children
set_option maxRecDepth 20000 in
theorem ggX3_addBeast_X3_many : GoodIn wsX3_addBeast wsX3_many := goodIn_r _ [29] (by decide +kernel) (by decide +kernel)
set_option maxRecDepth 20000 in
theorem gX3_addBeast_X3_many : GoodIn wsX3_addBeast (va_wsS RX3 79 yX3_many wsX3_many) := goodIn_app (goodIn_of _ (by decide +kernel)) ggX3_addBeast_X3_many
theorem dX3_addBeast_0 : decode cX3_addBeast 0 = .ok (.aload_n 0, 1) := by decide +kernel
theorem dX3_addBeast_1 : decode cX3_addBeast 1 = .ok (.iconst 0, 1) := by decide +kernel
theorem dX3_addBeast_2 : decode cX3_addBeast 2 = .ok (.putfield 40, 3) := by decide +kernel
theorem dX3_addBeast_5 : decode cX3_addBeast 5 = .ok (.aload_n 0, 1) := by decide +kernel
theorem dX3_addBeast_6 : decode cX3_addBeast 6 = .ok (.iload_n 1, 1) := by decide +kernel
theorem dX3_addBeast_7 : decode cX3_addBeast 7 = .ok (.invokevirtual 73, 3) := by decide +kernel
theorem dX3_addBeast_10 : decode cX3_addBeast 10 = .ok (.ifCond .eq 10, 3) := by decide +kernel
theorem dX3_addBeast_13 : decode cX3_addBeast 13 = .ok (.iload_n 2, 1) := by decide +kernel
theorem dX3_addBeast_14 : decode cX3_addBeast 14 = .ok (.invokestatic 59, 3) := by decide +kernel
theorem dX3_addBeast_17 : decode cX3_addBeast 17 = .ok (.ifCond .ne 9, 3) := by decide +kernel
theorem dX3_addBeast_20 : decode cX3_addBeast 20 = .ok (.aload_n 0, 1) := by decide +kernel
theorem dX3_addBeast_21 : decode cX3_addBeast 21 = .ok (.iconst 1, 1) := by decide +kernel
theorem dX3_addBeast_22 : decode cX3_addBeast 22 = .ok (.invokevirtual 65, 3) := by decide +kernel
theorem dX3_addBeast_25 : decode cX3_addBeast 25 = .ok (.ireturn, 1) := by decide +kernel
theorem dX3_addBeast_26 : decode cX3_addBeast 26 = .ok (.aload_n 0, 1) := by decide +kernel
theorem dX3_addBeast_27 : decode cX3_addBeast 27 = .ok (.getfield 13, 3) := by decide +kernel
theorem dX3_addBeast_30 : decode cX3_addBeast 30 = .ok (.iload_n 1, 1) := by decide +kernel
theorem dX3_addBeast_31 : decode cX3_addBeast 31 = .ok (.iaload, 1) := by decide +kernel
theorem dX3_addBeast_32 : decode cX3_addBeast 32 = .ok (.iload_n 2, 1) := by decide +kernel
theorem dX3_addBeast_33 : decode cX3_addBeast 33 = .ok (.invokestatic 51, 3) := by decide +kernel
theorem dX3_addBeast_36 : decode cX3_addBeast 36 = .ok (.ifCond .ne 11, 3) := by decide +kernel
theorem dX3_addBeast_39 : decode cX3_addBeast 39 = .ok (.aload_n 0, 1) := by decide +kernel
theorem dX3_addBeast_40 : decode cX3_addBeast 40 = .ok (.iload_n 1, 1) := by decide +kernel
theorem dX3_addBeast_41 : decode cX3_addBeast 41 = .ok (.invokevirtual 76, 3) := by decide +kernel
theorem dX3_addBeast_44 : decode cX3_addBeast 44 = .ok (.ifCond .le 9, 3) := by decide +kernel
theorem dX3_addBeast_47 : decode cX3_addBeast 47 = .ok (.aload_n 0, 1) := by decide +kernel
theorem dX3_addBeast_48 : decode cX3_addBeast 48 = .ok (.iconst 2, 1) := by decide +kernel
theorem dX3_addBeast_49 : decode cX3_addBeast 49 = .ok (.invokevirtual 65, 3) := by decide +kernel
theorem dX3_addBeast_52 : decode cX3_addBeast 52 = .ok (.ireturn, 1) := by decide +kernel
theorem dX3_addBeast_53 : decode cX3_addBeast 53 = .ok (.aload_n 0, 1) := by decide +kernel
theorem dX3_addBeast_54 : decode cX3_addBeast 54 = .ok (.getfield 13, 3) := by decide +kernel
theorem dX3_addBeast_57 : decode cX3_addBeast 57 = .ok (.iload_n 1, 1) := by decide +kernel
theorem dX3_addBeast_58 : decode cX3_addBeast 58 = .ok (.dup2, 1) := by decide +kernel
theorem dX3_addBeast_59 : decode cX3_addBeast 59 = .ok (.iaload, 1) := by decide +kernel
theorem dX3_addBeast_60 : decode cX3_addBeast 60 = .ok (.iconst 1, 1) := by decide +kernel
theorem dX3_addBeast_61 : decode cX3_addBeast 61 = .ok (.iload_n 2, 1) := by decide +kernel
theorem dX3_addBeast_62 : decode cX3_addBeast 62 = .ok (.ishl, 1) := by decide +kernel
theorem dX3_addBeast_63 : decode cX3_addBeast 63 = .ok (.ior, 1) := by decide +kernel
theorem dX3_addBeast_64 : decode cX3_addBeast 64 = .ok (.iastore, 1) := by decide +kernel
theorem dX3_addBeast_65 : decode cX3_addBeast 65 = .ok (.aload_n 0, 1) := by decide +kernel
theorem dX3_addBeast_66 : decode cX3_addBeast 66 = .ok (.getfield 13, 3) := by decide +kernel
theorem dX3_addBeast_69 : decode cX3_addBeast 69 = .ok (.iload_n 1, 1) := by decide +kernel
theorem dX3_addBeast_70 : decode cX3_addBeast 70 = .ok (.iaload, 1) := by decide +kernel
theorem dX3_addBeast_71 : decode cX3_addBeast 71 = .ok (.invokestatic 79, 3) := by decide +kernel
theorem dX3_addBeast_74 : decode cX3_addBeast 74 = .ok (.ireturn, 1) := by decide +kernel
set_option maxRecDepth 20000 in
theorem ggX3_addVariant_X3_isFable : GoodIn wsX3_addVariant wsX3_isFable := goodIn_r _ [9, 2, 10, 11, 8, 12, 32, 33, 34, 35, 36, 37, 38, 39, 40, 41, 42, 43, 44, 45] (by decide +kernel) (by decide +kernel)
set_option maxRecDepth 20000 in
theorem gX3_addVariant_X3_isFable : GoodIn wsX3_addVariant (wsV RX3 73 RX3 yX3_isFable wsX3_isFable) := goodIn_app (goodIn_of _ (by decide +kernel)) ggX3_addVariant_X3_isFable
set_option maxRecDepth 20000 in
theorem ggX3_addVariant_X3_isBeast : GoodIn wsX3_addVariant wsX3_isBeast := goodIn_r _ [15, 10, 11, 8, 12] (by decide +kernel) (by decide +kernel)
set_option maxRecDepth 20000 in
theorem gX3_addVariant_X3_isBeast : GoodIn wsX3_addVariant (va_wsS RX3 59 yX3_isBeast wsX3_isBeast) := goodIn_app (goodIn_of _ (by decide +kernel)) ggX3_addVariant_X3_isBeast
set_option maxRecDepth 20000 in
theorem ggX3_addVariant_X3_isValley : GoodIn wsX3_addVariant wsX3_isValley := goodIn_r _ [18, 10, 11, 8, 12] (by decide +kernel) (by decide +kernel)
set_option maxRecDepth 20000 in
theorem gX3_addVariant_X3_isValley : GoodIn wsX3_addVariant (va_wsS RX3 62 yX3_isValley wsX3_isValley) := goodIn_app (goodIn_of _ (by decide +kernel)) ggX3_addVariant_X3_isValley
set_option maxRecDepth 20000 in
theorem ggX3_addVariant_X3_fail : GoodIn wsX3_addVariant wsX3_fail := goodIn_r _ [22, 1, 32, 33, 34, 35, 36, 37, 38, 39, 40, 41, 42, 43, 44, 45] (by decide +kernel) (by decide +kernel)
set_option maxRecDepth 20000 in
theorem gX3_addVariant_X3_fail : GoodIn wsX3_addVariant (wsV RX3 65 RX3 yX3_fail wsX3_fail) := goodIn_app (goodIn_of _ (by decide +kernel)) ggX3_addVariant_X3_fail
set_option maxRecDepth 20000 in
theorem ggX3_addVariant_X3_has : GoodIn wsX3_addVariant wsX3_has := goodIn_r _ [25] (by decide +kernel) (by decide +kernel)
set_option maxRecDepth 20000 in
theorem gX3_addVariant_X3_has : GoodIn wsX3_addVariant (va_wsS RX3 51 yX3_has wsX3_has) := goodIn_app (goodIn_of _ (by decide +kernel)) ggX3_addVariant_X3_has
set_option maxRecDepth 20000 in
theorem ggX3_addVariant_X3_write : GoodIn wsX3_addVariant wsX3_write := goodIn_r _ [29, 4, 2, 3, 30, 31, 32, 33, 34, 35, 36, 37, 38, 39, 40, 41, 42, 43, 44, 45] (by decide +kernel) (by decide +kernel)
set_option maxRecDepth 20000 in
theorem gX3_addVariant_X3_write : GoodIn wsX3_addVariant (wsV RX3 69 RX3 yX3_write wsX3_write) := goodIn_app (goodIn_of _ (by decide +kernel)) ggX3_addVariant_X3_write
theorem dX3_addVariant_0 : decode cX3_addVariant 0 = .ok (.aload_n 0, 1) := by decide +kernel
theorem dX3_addVariant_1 : decode cX3_addVariant 1 = .ok (.iconst 0, 1) := by decide +kernel
theorem dX3_addVariant_2 : decode cX3_addVariant 2 = .ok (.putfield 40, 3) := by decide +kernel
theorem dX3_addVariant_5 : decode cX3_addVariant 5 = .ok (.aload_n 0, 1) := by decide +kernel
theorem dX3_addVariant_6 : decode cX3_addVariant 6 = .ok (.iload_n 1, 1) := by decide +kernel
theorem dX3_addVariant_7 : decode cX3_addVariant 7 = .ok (.invokevirtual 73, 3) := by decide +kernel
theorem dX3_addVariant_10 : decode cX3_addVariant 10 = .ok (.ifCond .eq 25, 3) := by decide +kernel
theorem dX3_addVariant_13 : decode cX3_addVariant 13 = .ok (.iload_n 2, 1) := by decide +kernel
theorem dX3_addVariant_14 : decode cX3_addVariant 14 = .ok (.invokestatic 59, 3) := by decide +kernel
theorem dX3_addVariant_17 : decode cX3_addVariant 17 = .ok (.ifCond .eq 18, 3) := by decide +kernel
theorem dX3_addVariant_20 : decode cX3_addVariant 20 = .ok (.iload_n 3, 1) := by decide +kernel
theorem dX3_addVariant_21 : decode cX3_addVariant 21 = .ok (.invokestatic 59, 3) := by decide +kernel
theorem dX3_addVariant_24 : decode cX3_addVariant 24 = .ok (.ifCond .eq 11, 3) := by decide +kernel
theorem dX3_addVariant_27 : decode cX3_addVariant 27 = .ok (.iload 4, 2) := by decide +kernel
theorem dX3_addVariant_29 : decode cX3_addVariant 29 = .ok (.invokestatic 62, 3) := by decide +kernel
theorem dX3_addVariant_32 : decode cX3_addVariant 32 = .ok (.ifCond .ne 9, 3) := by decide +kernel
theorem dX3_addVariant_35 : decode cX3_addVariant 35 = .ok (.aload_n 0, 1) := by decide +kernel
theorem dX3_addVariant_36 : decode cX3_addVariant 36 = .ok (.iconst 1, 1) := by decide +kernel
theorem dX3_addVariant_37 : decode cX3_addVariant 37 = .ok (.invokevirtual 65, 3) := by decide +kernel
theorem dX3_addVariant_40 : decode cX3_addVariant 40 = .ok (.ireturn, 1) := by decide +kernel
theorem dX3_addVariant_41 : decode cX3_addVariant 41 = .ok (.aload_n 0, 1) := by decide +kernel
theorem dX3_addVariant_42 : decode cX3_addVariant 42 = .ok (.getfield 44, 3) := by decide +kernel
theorem dX3_addVariant_45 : decode cX3_addVariant 45 = .ok (.bipush 20, 2) := by decide +kernel
theorem dX3_addVariant_47 : decode cX3_addVariant 47 = .ok (.if_icmp .eq 29, 3) := by decide +kernel
theorem dX3_addVariant_50 : decode cX3_addVariant 50 = .ok (.aload_n 0, 1) := by decide +kernel
theorem dX3_addVariant_51 : decode cX3_addVariant 51 = .ok (.getfield 13, 3) := by decide +kernel
theorem dX3_addVariant_54 : decode cX3_addVariant 54 = .ok (.iload_n 1, 1) := by decide +kernel
theorem dX3_addVariant_55 : decode cX3_addVariant 55 = .ok (.iaload, 1) := by decide +kernel
theorem dX3_addVariant_56 : decode cX3_addVariant 56 = .ok (.iload_n 2, 1) := by decide +kernel
theorem dX3_addVariant_57 : decode cX3_addVariant 57 = .ok (.invokestatic 51, 3) := by decide +kernel
theorem dX3_addVariant_60 : decode cX3_addVariant 60 = .ok (.ifCond .eq 16, 3) := by decide +kernel
theorem dX3_addVariant_63 : decode cX3_addVariant 63 = .ok (.aload_n 0, 1) := by decide +kernel
theorem dX3_addVariant_64 : decode cX3_addVariant 64 = .ok (.getfield 13, 3) := by decide +kernel
theorem dX3_addVariant_67 : decode cX3_addVariant 67 = .ok (.iload_n 1, 1) := by decide +kernel
theorem dX3_addVariant_68 : decode cX3_addVariant 68 = .ok (.iaload, 1) := by decide +kernel
theorem dX3_addVariant_69 : decode cX3_addVariant 69 = .ok (.iload_n 3, 1) := by decide +kernel
theorem dX3_addVariant_70 : decode cX3_addVariant 70 = .ok (.invokestatic 51, 3) := by decide +kernel
theorem dX3_addVariant_73 : decode cX3_addVariant 73 = .ok (.ifCond .eq 9, 3) := by decide +kernel
theorem dX3_addVariant_76 : decode cX3_addVariant 76 = .ok (.aload_n 0, 1) := by decide +kernel
theorem dX3_addVariant_77 : decode cX3_addVariant 77 = .ok (.iconst 2, 1) := by decide +kernel
theorem dX3_addVariant_78 : decode cX3_addVariant 78 = .ok (.invokevirtual 65, 3) := by decide +kernel
theorem dX3_addVariant_81 : decode cX3_addVariant 81 = .ok (.ireturn, 1) := by decide +kernel
theorem dX3_addVariant_82 : decode cX3_addVariant 82 = .ok (.aload_n 0, 1) := by decide +kernel
theorem dX3_addVariant_83 : decode cX3_addVariant 83 = .ok (.aload_n 0, 1) := by decide +kernel
theorem dX3_addVariant_84 : decode cX3_addVariant 84 = .ok (.getfield 9, 3) := by decide +kernel
theorem dX3_addVariant_87 : decode cX3_addVariant 87 = .ok (.iload_n 1, 1) := by decide +kernel
theorem dX3_addVariant_88 : decode cX3_addVariant 88 = .ok (.iaload, 1) := by decide +kernel
theorem dX3_addVariant_89 : decode cX3_addVariant 89 = .ok (.aload_n 0, 1) := by decide +kernel
theorem dX3_addVariant_90 : decode cX3_addVariant 90 = .ok (.getfield 13, 3) := by decide +kernel
theorem dX3_addVariant_93 : decode cX3_addVariant 93 = .ok (.iload_n 1, 1) := by decide +kernel
theorem dX3_addVariant_94 : decode cX3_addVariant 94 = .ok (.iaload, 1) := by decide +kernel
theorem dX3_addVariant_95 : decode cX3_addVariant 95 = .ok (.iconst 1, 1) := by decide +kernel
theorem dX3_addVariant_96 : decode cX3_addVariant 96 = .ok (.iload_n 2, 1) := by decide +kernel
theorem dX3_addVariant_97 : decode cX3_addVariant 97 = .ok (.ishl, 1) := by decide +kernel
theorem dX3_addVariant_98 : decode cX3_addVariant 98 = .ok (.iconst (-1), 1) := by decide +kernel
theorem dX3_addVariant_99 : decode cX3_addVariant 99 = .ok (.ixor, 1) := by decide +kernel
theorem dX3_addVariant_100 : decode cX3_addVariant 100 = .ok (.iand, 1) := by decide +kernel
theorem dX3_addVariant_101 : decode cX3_addVariant 101 = .ok (.iconst 1, 1) := by decide +kernel
theorem dX3_addVariant_102 : decode cX3_addVariant 102 = .ok (.iload_n 3, 1) := by decide +kernel
theorem dX3_addVariant_103 : decode cX3_addVariant 103 = .ok (.ishl, 1) := by decide +kernel
theorem dX3_addVariant_104 : decode cX3_addVariant 104 = .ok (.ior, 1) := by decide +kernel
theorem dX3_addVariant_105 : decode cX3_addVariant 105 = .ok (.iload 4, 2) := by decide +kernel
theorem dX3_addVariant_107 : decode cX3_addVariant 107 = .ok (.iload_n 1, 1) := by decide +kernel
theorem dX3_addVariant_108 : decode cX3_addVariant 108 = .ok (.invokevirtual 69, 3) := by decide +kernel
theorem dX3_addVariant_111 : decode cX3_addVariant 111 = .ok (.ireturn, 1) := by decide +kernel
set_option maxRecDepth 20000 in
theorem ggX3_turnPass_X3_isValley : GoodIn wsX3_turnPass wsX3_isValley := goodIn_r _ [6, 7, 8, 5, 9] (by decide +kernel) (by decide +kernel)
set_option maxRecDepth 20000 in
theorem gX3_turnPass_X3_isValley : GoodIn wsX3_turnPass (va_wsS RX3 62 yX3_isValley wsX3_isValley) := goodIn_app (goodIn_of _ (by decide +kernel)) ggX3_turnPass_X3_isValley
set_option maxRecDepth 20000 in
theorem ggX3_turnPass_X3_failed : GoodIn wsX3_turnPass wsX3_failed := goodIn_r _ [13, 1, 17, 18, 19, 20, 21, 22, 23, 24, 25, 26, 27, 28, 29, 30] (by decide +kernel) (by decide +kernel)
set_option maxRecDepth 20000 in
theorem gX3_turnPass_X3_failed : GoodIn wsX3_turnPass (wsV RX3 82 RX3 yX3_failed wsX3_failed) := goodIn_app (goodIn_of _ (by decide +kernel)) ggX3_turnPass_X3_failed
set_option maxRecDepth 20000 in
theorem ggX3_turnPass_X3_has : GoodIn wsX3_turnPass wsX3_has := goodIn_r _ [16] (by decide +kernel) (by decide +kernel)
set_option maxRecDepth 20000 in
theorem gX3_turnPass_X3_has : GoodIn wsX3_turnPass (va_wsS RX3 51 yX3_has wsX3_has) := goodIn_app (goodIn_of _ (by decide +kernel)) ggX3_turnPass_X3_has
theorem dX3_turnPass_0 : decode cX3_turnPass 0 = .ok (.aload_n 0, 1) := by decide +kernel
theorem dX3_turnPass_1 : decode cX3_turnPass 1 = .ok (.iconst 0, 1) := by decide +kernel
theorem dX3_turnPass_2 : decode cX3_turnPass 2 = .ok (.putfield 40, 3) := by decide +kernel
theorem dX3_turnPass_5 : decode cX3_turnPass 5 = .ok (.iload_n 1, 1) := by decide +kernel
theorem dX3_turnPass_6 : decode cX3_turnPass 6 = .ok (.invokestatic 62, 3) := by decide +kernel
theorem dX3_turnPass_9 : decode cX3_turnPass 9 = .ok (.ifCond .eq 10, 3) := by decide +kernel
theorem dX3_turnPass_12 : decode cX3_turnPass 12 = .ok (.iload_n 2, 1) := by decide +kernel
theorem dX3_turnPass_13 : decode cX3_turnPass 13 = .ok (.invokestatic 62, 3) := by decide +kernel
theorem dX3_turnPass_16 : decode cX3_turnPass 16 = .ok (.ifCond .ne 9, 3) := by decide +kernel
theorem dX3_turnPass_19 : decode cX3_turnPass 19 = .ok (.aload_n 0, 1) := by decide +kernel
theorem dX3_turnPass_20 : decode cX3_turnPass 20 = .ok (.iconst 1, 1) := by decide +kernel
theorem dX3_turnPass_21 : decode cX3_turnPass 21 = .ok (.invokevirtual 82, 3) := by decide +kernel
theorem dX3_turnPass_24 : decode cX3_turnPass 24 = .ok (.ireturn, 1) := by decide +kernel
theorem dX3_turnPass_25 : decode cX3_turnPass 25 = .ok (.iload_n 1, 1) := by decide +kernel
theorem dX3_turnPass_26 : decode cX3_turnPass 26 = .ok (.iload_n 2, 1) := by decide +kernel
theorem dX3_turnPass_27 : decode cX3_turnPass 27 = .ok (.if_icmp .ne 9, 3) := by decide +kernel
theorem dX3_turnPass_30 : decode cX3_turnPass 30 = .ok (.aload_n 0, 1) := by decide +kernel
theorem dX3_turnPass_31 : decode cX3_turnPass 31 = .ok (.iconst 2, 1) := by decide +kernel
theorem dX3_turnPass_32 : decode cX3_turnPass 32 = .ok (.invokevirtual 82, 3) := by decide +kernel
theorem dX3_turnPass_35 : decode cX3_turnPass 35 = .ok (.ireturn, 1) := by decide +kernel
theorem dX3_turnPass_36 : decode cX3_turnPass 36 = .ok (.aload_n 0, 1) := by decide +kernel
theorem dX3_turnPass_37 : decode cX3_turnPass 37 = .ok (.getfield 31, 3) := by decide +kernel
theorem dX3_turnPass_40 : decode cX3_turnPass 40 = .ok (.iload_n 1, 1) := by decide +kernel
theorem dX3_turnPass_41 : decode cX3_turnPass 41 = .ok (.dup2, 1) := by decide +kernel
theorem dX3_turnPass_42 : decode cX3_turnPass 42 = .ok (.iaload, 1) := by decide +kernel
theorem dX3_turnPass_43 : decode cX3_turnPass 43 = .ok (.iconst 1, 1) := by decide +kernel
theorem dX3_turnPass_44 : decode cX3_turnPass 44 = .ok (.iload_n 2, 1) := by decide +kernel
theorem dX3_turnPass_45 : decode cX3_turnPass 45 = .ok (.ishl, 1) := by decide +kernel
theorem dX3_turnPass_46 : decode cX3_turnPass 46 = .ok (.ixor, 1) := by decide +kernel
theorem dX3_turnPass_47 : decode cX3_turnPass 47 = .ok (.iastore, 1) := by decide +kernel
theorem dX3_turnPass_48 : decode cX3_turnPass 48 = .ok (.aload_n 0, 1) := by decide +kernel
theorem dX3_turnPass_49 : decode cX3_turnPass 49 = .ok (.getfield 31, 3) := by decide +kernel
theorem dX3_turnPass_52 : decode cX3_turnPass 52 = .ok (.iload_n 2, 1) := by decide +kernel
theorem dX3_turnPass_53 : decode cX3_turnPass 53 = .ok (.dup2, 1) := by decide +kernel
theorem dX3_turnPass_54 : decode cX3_turnPass 54 = .ok (.iaload, 1) := by decide +kernel
theorem dX3_turnPass_55 : decode cX3_turnPass 55 = .ok (.iconst 1, 1) := by decide +kernel
theorem dX3_turnPass_56 : decode cX3_turnPass 56 = .ok (.iload_n 1, 1) := by decide +kernel
theorem dX3_turnPass_57 : decode cX3_turnPass 57 = .ok (.ishl, 1) := by decide +kernel
theorem dX3_turnPass_58 : decode cX3_turnPass 58 = .ok (.ixor, 1) := by decide +kernel
theorem dX3_turnPass_59 : decode cX3_turnPass 59 = .ok (.iastore, 1) := by decide +kernel
theorem dX3_turnPass_60 : decode cX3_turnPass 60 = .ok (.aload_n 0, 1) := by decide +kernel
theorem dX3_turnPass_61 : decode cX3_turnPass 61 = .ok (.getfield 31, 3) := by decide +kernel
theorem dX3_turnPass_64 : decode cX3_turnPass 64 = .ok (.iload_n 1, 1) := by decide +kernel
theorem dX3_turnPass_65 : decode cX3_turnPass 65 = .ok (.iaload, 1) := by decide +kernel
theorem dX3_turnPass_66 : decode cX3_turnPass 66 = .ok (.iload_n 2, 1) := by decide +kernel
theorem dX3_turnPass_67 : decode cX3_turnPass 67 = .ok (.invokestatic 51, 3) := by decide +kernel
theorem dX3_turnPass_70 : decode cX3_turnPass 70 = .ok (.ireturn, 1) := by decide +kernel
set_option maxRecDepth 20000 in
theorem ggX3_turnMoral_X3_isValley : GoodIn wsX3_turnMoral wsX3_isValley := goodIn_r _ [6, 7, 8, 5, 9] (by decide +kernel) (by decide +kernel)
set_option maxRecDepth 20000 in
theorem gX3_turnMoral_X3_isValley : GoodIn wsX3_turnMoral (va_wsS RX3 62 yX3_isValley wsX3_isValley) := goodIn_app (goodIn_of _ (by decide +kernel)) ggX3_turnMoral_X3_isValley
set_option maxRecDepth 20000 in
theorem ggX3_turnMoral_X3_isMoral : GoodIn wsX3_turnMoral wsX3_isMoral := goodIn_r _ [12, 7, 8, 5, 9] (by decide +kernel) (by decide +kernel)
set_option maxRecDepth 20000 in
theorem gX3_turnMoral_X3_isMoral : GoodIn wsX3_turnMoral (va_wsS RX3 55 yX3_isMoral wsX3_isMoral) := goodIn_app (goodIn_of _ (by decide +kernel)) ggX3_turnMoral_X3_isMoral
set_option maxRecDepth 20000 in
theorem ggX3_turnMoral_X3_failed : GoodIn wsX3_turnMoral wsX3_failed := goodIn_r _ [16, 1, 20, 21, 22, 23, 24, 25, 26, 27, 28, 29, 30, 31, 32, 33] (by decide +kernel) (by decide +kernel)
set_option maxRecDepth 20000 in
theorem gX3_turnMoral_X3_failed : GoodIn wsX3_turnMoral (wsV RX3 82 RX3 yX3_failed wsX3_failed) := goodIn_app (goodIn_of _ (by decide +kernel)) ggX3_turnMoral_X3_failed
set_option maxRecDepth 20000 in
theorem ggX3_turnMoral_X3_has : GoodIn wsX3_turnMoral wsX3_has := goodIn_r _ [19] (by decide +kernel) (by decide +kernel)
set_option maxRecDepth 20000 in
theorem gX3_turnMoral_X3_has : GoodIn wsX3_turnMoral (va_wsS RX3 51 yX3_has wsX3_has) := goodIn_app (goodIn_of _ (by decide +kernel)) ggX3_turnMoral_X3_has
theorem dX3_turnMoral_0 : decode cX3_turnMoral 0 = .ok (.aload_n 0, 1) := by decide +kernel
theorem dX3_turnMoral_1 : decode cX3_turnMoral 1 = .ok (.iconst 0, 1) := by decide +kernel
theorem dX3_turnMoral_2 : decode cX3_turnMoral 2 = .ok (.putfield 40, 3) := by decide +kernel
theorem dX3_turnMoral_5 : decode cX3_turnMoral 5 = .ok (.iload_n 1, 1) := by decide +kernel
theorem dX3_turnMoral_6 : decode cX3_turnMoral 6 = .ok (.invokestatic 62, 3) := by decide +kernel
theorem dX3_turnMoral_9 : decode cX3_turnMoral 9 = .ok (.ifCond .eq 10, 3) := by decide +kernel
theorem dX3_turnMoral_12 : decode cX3_turnMoral 12 = .ok (.iload_n 2, 1) := by decide +kernel
theorem dX3_turnMoral_13 : decode cX3_turnMoral 13 = .ok (.invokestatic 55, 3) := by decide +kernel
theorem dX3_turnMoral_16 : decode cX3_turnMoral 16 = .ok (.ifCond .ne 9, 3) := by decide +kernel
theorem dX3_turnMoral_19 : decode cX3_turnMoral 19 = .ok (.aload_n 0, 1) := by decide +kernel
theorem dX3_turnMoral_20 : decode cX3_turnMoral 20 = .ok (.iconst 1, 1) := by decide +kernel
theorem dX3_turnMoral_21 : decode cX3_turnMoral 21 = .ok (.invokevirtual 82, 3) := by decide +kernel
theorem dX3_turnMoral_24 : decode cX3_turnMoral 24 = .ok (.ireturn, 1) := by decide +kernel
theorem dX3_turnMoral_25 : decode cX3_turnMoral 25 = .ok (.aload_n 0, 1) := by decide +kernel
theorem dX3_turnMoral_26 : decode cX3_turnMoral 26 = .ok (.getfield 25, 3) := by decide +kernel
theorem dX3_turnMoral_29 : decode cX3_turnMoral 29 = .ok (.iload_n 1, 1) := by decide +kernel
theorem dX3_turnMoral_30 : decode cX3_turnMoral 30 = .ok (.dup2, 1) := by decide +kernel
theorem dX3_turnMoral_31 : decode cX3_turnMoral 31 = .ok (.iaload, 1) := by decide +kernel
theorem dX3_turnMoral_32 : decode cX3_turnMoral 32 = .ok (.iconst 1, 1) := by decide +kernel
theorem dX3_turnMoral_33 : decode cX3_turnMoral 33 = .ok (.iload_n 2, 1) := by decide +kernel
theorem dX3_turnMoral_34 : decode cX3_turnMoral 34 = .ok (.ishl, 1) := by decide +kernel
theorem dX3_turnMoral_35 : decode cX3_turnMoral 35 = .ok (.ixor, 1) := by decide +kernel
theorem dX3_turnMoral_36 : decode cX3_turnMoral 36 = .ok (.iastore, 1) := by decide +kernel
theorem dX3_turnMoral_37 : decode cX3_turnMoral 37 = .ok (.aload_n 0, 1) := by decide +kernel
theorem dX3_turnMoral_38 : decode cX3_turnMoral 38 = .ok (.getfield 25, 3) := by decide +kernel
theorem dX3_turnMoral_41 : decode cX3_turnMoral 41 = .ok (.iload_n 1, 1) := by decide +kernel
theorem dX3_turnMoral_42 : decode cX3_turnMoral 42 = .ok (.iaload, 1) := by decide +kernel
theorem dX3_turnMoral_43 : decode cX3_turnMoral 43 = .ok (.iload_n 2, 1) := by decide +kernel
theorem dX3_turnMoral_44 : decode cX3_turnMoral 44 = .ok (.invokestatic 51, 3) := by decide +kernel
theorem dX3_turnMoral_47 : decode cX3_turnMoral 47 = .ok (.ireturn, 1) := by decide +kernel
set_option maxRecDepth 20000 in
theorem ggX3_turnBeast_X3_isValley : GoodIn wsX3_turnBeast wsX3_isValley := goodIn_r _ [6, 7, 8, 5, 9] (by decide +kernel) (by decide +kernel)
set_option maxRecDepth 20000 in
theorem gX3_turnBeast_X3_isValley : GoodIn wsX3_turnBeast (va_wsS RX3 62 yX3_isValley wsX3_isValley) := goodIn_app (goodIn_of _ (by decide +kernel)) ggX3_turnBeast_X3_isValley
set_option maxRecDepth 20000 in
theorem ggX3_turnBeast_X3_isBeast : GoodIn wsX3_turnBeast wsX3_isBeast := goodIn_r _ [12, 7, 8, 5, 9] (by decide +kernel) (by decide +kernel)
set_option maxRecDepth 20000 in
theorem gX3_turnBeast_X3_isBeast : GoodIn wsX3_turnBeast (va_wsS RX3 59 yX3_isBeast wsX3_isBeast) := goodIn_app (goodIn_of _ (by decide +kernel)) ggX3_turnBeast_X3_isBeast
set_option maxRecDepth 20000 in
theorem ggX3_turnBeast_X3_failed : GoodIn wsX3_turnBeast wsX3_failed := goodIn_r _ [16, 1, 20, 21, 22, 23, 24, 25, 26, 27, 28, 29, 30, 31, 32, 33] (by decide +kernel) (by decide +kernel)
set_option maxRecDepth 20000 in
theorem gX3_turnBeast_X3_failed : GoodIn wsX3_turnBeast (wsV RX3 82 RX3 yX3_failed wsX3_failed) := goodIn_app (goodIn_of _ (by decide +kernel)) ggX3_turnBeast_X3_failed
set_option maxRecDepth 20000 in
theorem ggX3_turnBeast_X3_has : GoodIn wsX3_turnBeast wsX3_has := goodIn_r _ [19] (by decide +kernel) (by decide +kernel)
set_option maxRecDepth 20000 in
theorem gX3_turnBeast_X3_has : GoodIn wsX3_turnBeast (va_wsS RX3 51 yX3_has wsX3_has) := goodIn_app (goodIn_of _ (by decide +kernel)) ggX3_turnBeast_X3_has
theorem dX3_turnBeast_0 : decode cX3_turnBeast 0 = .ok (.aload_n 0, 1) := by decide +kernel
theorem dX3_turnBeast_1 : decode cX3_turnBeast 1 = .ok (.iconst 0, 1) := by decide +kernel
theorem dX3_turnBeast_2 : decode cX3_turnBeast 2 = .ok (.putfield 40, 3) := by decide +kernel
theorem dX3_turnBeast_5 : decode cX3_turnBeast 5 = .ok (.iload_n 1, 1) := by decide +kernel
theorem dX3_turnBeast_6 : decode cX3_turnBeast 6 = .ok (.invokestatic 62, 3) := by decide +kernel
theorem dX3_turnBeast_9 : decode cX3_turnBeast 9 = .ok (.ifCond .eq 10, 3) := by decide +kernel
theorem dX3_turnBeast_12 : decode cX3_turnBeast 12 = .ok (.iload_n 2, 1) := by decide +kernel
theorem dX3_turnBeast_13 : decode cX3_turnBeast 13 = .ok (.invokestatic 59, 3) := by decide +kernel
theorem dX3_turnBeast_16 : decode cX3_turnBeast 16 = .ok (.ifCond .ne 9, 3) := by decide +kernel
theorem dX3_turnBeast_19 : decode cX3_turnBeast 19 = .ok (.aload_n 0, 1) := by decide +kernel
theorem dX3_turnBeast_20 : decode cX3_turnBeast 20 = .ok (.iconst 1, 1) := by decide +kernel
theorem dX3_turnBeast_21 : decode cX3_turnBeast 21 = .ok (.invokevirtual 82, 3) := by decide +kernel
theorem dX3_turnBeast_24 : decode cX3_turnBeast 24 = .ok (.ireturn, 1) := by decide +kernel
theorem dX3_turnBeast_25 : decode cX3_turnBeast 25 = .ok (.aload_n 0, 1) := by decide +kernel
theorem dX3_turnBeast_26 : decode cX3_turnBeast 26 = .ok (.getfield 28, 3) := by decide +kernel
theorem dX3_turnBeast_29 : decode cX3_turnBeast 29 = .ok (.iload_n 1, 1) := by decide +kernel
theorem dX3_turnBeast_30 : decode cX3_turnBeast 30 = .ok (.dup2, 1) := by decide +kernel
theorem dX3_turnBeast_31 : decode cX3_turnBeast 31 = .ok (.iaload, 1) := by decide +kernel
theorem dX3_turnBeast_32 : decode cX3_turnBeast 32 = .ok (.iconst 1, 1) := by decide +kernel
theorem dX3_turnBeast_33 : decode cX3_turnBeast 33 = .ok (.iload_n 2, 1) := by decide +kernel
theorem dX3_turnBeast_34 : decode cX3_turnBeast 34 = .ok (.ishl, 1) := by decide +kernel
theorem dX3_turnBeast_35 : decode cX3_turnBeast 35 = .ok (.ixor, 1) := by decide +kernel
theorem dX3_turnBeast_36 : decode cX3_turnBeast 36 = .ok (.iastore, 1) := by decide +kernel
theorem dX3_turnBeast_37 : decode cX3_turnBeast 37 = .ok (.aload_n 0, 1) := by decide +kernel
theorem dX3_turnBeast_38 : decode cX3_turnBeast 38 = .ok (.getfield 28, 3) := by decide +kernel
theorem dX3_turnBeast_41 : decode cX3_turnBeast 41 = .ok (.iload_n 1, 1) := by decide +kernel
theorem dX3_turnBeast_42 : decode cX3_turnBeast 42 = .ok (.iaload, 1) := by decide +kernel
theorem dX3_turnBeast_43 : decode cX3_turnBeast 43 = .ok (.iload_n 2, 1) := by decide +kernel
theorem dX3_turnBeast_44 : decode cX3_turnBeast 44 = .ok (.invokestatic 51, 3) := by decide +kernel
theorem dX3_turnBeast_47 : decode cX3_turnBeast 47 = .ok (.ireturn, 1) := by decide +kernel
set_option maxRecDepth 20000 in
theorem ggX3_isPlace_X3_isFable : GoodIn wsX3_isPlace wsX3_isFable := goodIn_r _ [5, 6, 7, 8, 4, 9, 13, 14, 15, 16, 17, 18, 19, 20, 21, 22, 23, 24, 25, 26] (by decide +kernel) (by decide +kernel)
set_option maxRecDepth 20000 in
theorem gX3_isPlace_X3_isFable : GoodIn wsX3_isPlace (wsV RX3 73 RX3 yX3_isFable wsX3_isFable) := goodIn_app (goodIn_of _ (by decide +kernel)) ggX3_isPlace_X3_isFable
set_option maxRecDepth 20000 in
theorem ggX3_isPlace_X3_isValley : GoodIn wsX3_isPlace wsX3_isValley := goodIn_r _ [12, 7, 8, 4, 9] (by decide +kernel) (by decide +kernel)
set_option maxRecDepth 20000 in
theorem gX3_isPlace_X3_isValley : GoodIn wsX3_isPlace (va_wsS RX3 62 yX3_isValley wsX3_isValley) := goodIn_app (goodIn_of _ (by decide +kernel)) ggX3_isPlace_X3_isValley
theorem dX3_isPlace_0 : decode cX3_isPlace 0 = .ok (.aload_n 0, 1) := by decide +kernel
theorem dX3_isPlace_1 : decode cX3_isPlace 1 = .ok (.iload_n 1, 1) := by decide +kernel
theorem dX3_isPlace_2 : decode cX3_isPlace 2 = .ok (.invokevirtual 73, 3) := by decide +kernel
theorem dX3_isPlace_5 : decode cX3_isPlace 5 = .ok (.ifCond .eq 14, 3) := by decide +kernel
theorem dX3_isPlace_8 : decode cX3_isPlace 8 = .ok (.iload_n 2, 1) := by decide +kernel
theorem dX3_isPlace_9 : decode cX3_isPlace 9 = .ok (.invokestatic 62, 3) := by decide +kernel
theorem dX3_isPlace_12 : decode cX3_isPlace 12 = .ok (.ifCond .eq 7, 3) := by decide +kernel
theorem dX3_isPlace_15 : decode cX3_isPlace 15 = .ok (.iconst 1, 1) := by decide +kernel
theorem dX3_isPlace_16 : decode cX3_isPlace 16 = .ok (.goto 4, 3) := by decide +kernel
theorem dX3_isPlace_19 : decode cX3_isPlace 19 = .ok (.iconst 0, 1) := by decide +kernel
theorem dX3_isPlace_20 : decode cX3_isPlace 20 = .ok (.ireturn, 1) := by decide +kernel
set_option maxRecDepth 20000 in
theorem ggX3_placesOf_X3_has : GoodIn wsX3_placesOf wsX3_has := goodIn_r _ [5] (by decide +kernel) (by decide +kernel)
set_option maxRecDepth 20000 in
theorem gX3_placesOf_X3_has : GoodIn wsX3_placesOf (va_wsS RX3 51 yX3_has wsX3_has) := goodIn_app (goodIn_of _ (by decide +kernel)) ggX3_placesOf_X3_has
theorem dX3_placesOf_0 : decode cX3_placesOf 0 = .ok (.iconst 0, 1) := by decide +kernel
theorem dX3_placesOf_1 : decode cX3_placesOf 1 = .ok (.istore_n 2, 1) := by decide +kernel
theorem dX3_placesOf_2 : decode cX3_placesOf 2 = .ok (.iconst 0, 1) := by decide +kernel
theorem dX3_placesOf_3 : decode cX3_placesOf 3 = .ok (.istore_n 3, 1) := by decide +kernel
theorem dX3_placesOf_4 : decode cX3_placesOf 4 = .ok (.iload_n 3, 1) := by decide +kernel
theorem dX3_placesOf_5 : decode cX3_placesOf 5 = .ok (.bipush 6, 2) := by decide +kernel
theorem dX3_placesOf_7 : decode cX3_placesOf 7 = .ok (.if_icmp .ge 30, 3) := by decide +kernel
theorem dX3_placesOf_10 : decode cX3_placesOf 10 = .ok (.iload_n 2, 1) := by decide +kernel
theorem dX3_placesOf_11 : decode cX3_placesOf 11 = .ok (.aload_n 0, 1) := by decide +kernel
theorem dX3_placesOf_12 : decode cX3_placesOf 12 = .ok (.getfield 22, 3) := by decide +kernel
theorem dX3_placesOf_15 : decode cX3_placesOf 15 = .ok (.iload_n 3, 1) := by decide +kernel
theorem dX3_placesOf_16 : decode cX3_placesOf 16 = .ok (.iaload, 1) := by decide +kernel
theorem dX3_placesOf_17 : decode cX3_placesOf 17 = .ok (.iload_n 1, 1) := by decide +kernel
theorem dX3_placesOf_18 : decode cX3_placesOf 18 = .ok (.invokestatic 51, 3) := by decide +kernel
theorem dX3_placesOf_21 : decode cX3_placesOf 21 = .ok (.ifCond .eq 7, 3) := by decide +kernel
theorem dX3_placesOf_24 : decode cX3_placesOf 24 = .ok (.iconst 1, 1) := by decide +kernel
theorem dX3_placesOf_25 : decode cX3_placesOf 25 = .ok (.goto 4, 3) := by decide +kernel
theorem dX3_placesOf_28 : decode cX3_placesOf 28 = .ok (.iconst 0, 1) := by decide +kernel
theorem dX3_placesOf_29 : decode cX3_placesOf 29 = .ok (.iadd, 1) := by decide +kernel
theorem dX3_placesOf_30 : decode cX3_placesOf 30 = .ok (.istore_n 2, 1) := by decide +kernel
theorem dX3_placesOf_31 : decode cX3_placesOf 31 = .ok (.iinc 3 1, 3) := by decide +kernel
theorem dX3_placesOf_34 : decode cX3_placesOf 34 = .ok (.goto (-30), 3) := by decide +kernel
theorem dX3_placesOf_37 : decode cX3_placesOf 37 = .ok (.iload_n 2, 1) := by decide +kernel
theorem dX3_placesOf_38 : decode cX3_placesOf 38 = .ok (.ireturn, 1) := by decide +kernel
set_option maxRecDepth 20000 in
theorem ggX3_tell_X3_isPlace : GoodIn wsX3_tell wsX3_isPlace := goodIn_r _ [7, 8, 9, 10, 6, 11, 12, 13, 14, 15, 16, 17, 18, 38, 39, 40, 41, 42, 43, 44, 45, 46, 47, 48, 49, 50, 51] (by decide +kernel) (by decide +kernel)
set_option maxRecDepth 20000 in
theorem gX3_tell_X3_isPlace : GoodIn wsX3_tell (wsV RX3 85 RX3 yX3_isPlace wsX3_isPlace) := goodIn_app (goodIn_of _ (by decide +kernel)) ggX3_tell_X3_isPlace
set_option maxRecDepth 20000 in
theorem ggX3_tell_X3_fail : GoodIn wsX3_tell wsX3_fail := goodIn_r _ [22, 1, 38, 39, 40, 41, 42, 43, 44, 45, 46, 47, 48, 49, 50, 51] (by decide +kernel) (by decide +kernel)
set_option maxRecDepth 20000 in
theorem gX3_tell_X3_fail : GoodIn wsX3_tell (wsV RX3 65 RX3 yX3_fail wsX3_fail) := goodIn_app (goodIn_of _ (by decide +kernel)) ggX3_tell_X3_fail
set_option maxRecDepth 20000 in
theorem ggX3_tell_X3_has : GoodIn wsX3_tell wsX3_has := goodIn_r _ [25] (by decide +kernel) (by decide +kernel)
set_option maxRecDepth 20000 in
theorem gX3_tell_X3_has : GoodIn wsX3_tell (va_wsS RX3 51 yX3_has wsX3_has) := goodIn_app (goodIn_of _ (by decide +kernel)) ggX3_tell_X3_has
set_option maxRecDepth 20000 in
theorem ggX3_tell_X3_banned : GoodIn wsX3_tell wsX3_banned := goodIn_r _ [29, 30, 31, 32, 33, 23, 24, 6, 25, 38, 39, 40, 41, 42, 43, 44, 45, 46, 47, 48, 49, 50, 51] (by decide +kernel) (by decide +kernel)
set_option maxRecDepth 20000 in
theorem gX3_tell_X3_banned : GoodIn wsX3_tell (wsV RX3 88 RX3 yX3_banned wsX3_banned) := goodIn_app (goodIn_of _ (by decide +kernel)) ggX3_tell_X3_banned
set_option maxRecDepth 20000 in
theorem ggX3_tell_X3_placesOf : GoodIn wsX3_tell wsX3_placesOf := goodIn_r _ [37, 2, 23, 24, 6, 25, 38, 39, 40, 41, 42, 43, 44, 45, 46, 47, 48, 49, 50, 51] (by decide +kernel) (by decide +kernel)
set_option maxRecDepth 20000 in
theorem gX3_tell_X3_placesOf : GoodIn wsX3_tell (wsV RX3 91 RX3 yX3_placesOf wsX3_placesOf) := goodIn_app (goodIn_of _ (by decide +kernel)) ggX3_tell_X3_placesOf
theorem dX3_tell_0 : decode cX3_tell 0 = .ok (.aload_n 0, 1) := by decide +kernel
theorem dX3_tell_1 : decode cX3_tell 1 = .ok (.iconst 0, 1) := by decide +kernel
theorem dX3_tell_2 : decode cX3_tell 2 = .ok (.putfield 40, 3) := by decide +kernel
theorem dX3_tell_5 : decode cX3_tell 5 = .ok (.aload_n 0, 1) := by decide +kernel
theorem dX3_tell_6 : decode cX3_tell 6 = .ok (.iload_n 1, 1) := by decide +kernel
theorem dX3_tell_7 : decode cX3_tell 7 = .ok (.iload_n 2, 1) := by decide +kernel
theorem dX3_tell_8 : decode cX3_tell 8 = .ok (.invokevirtual 85, 3) := by decide +kernel
theorem dX3_tell_11 : decode cX3_tell 11 = .ok (.ifCond .ne 9, 3) := by decide +kernel
theorem dX3_tell_14 : decode cX3_tell 14 = .ok (.aload_n 0, 1) := by decide +kernel
theorem dX3_tell_15 : decode cX3_tell 15 = .ok (.iconst 1, 1) := by decide +kernel
theorem dX3_tell_16 : decode cX3_tell 16 = .ok (.invokevirtual 65, 3) := by decide +kernel
theorem dX3_tell_19 : decode cX3_tell 19 = .ok (.ireturn, 1) := by decide +kernel
theorem dX3_tell_20 : decode cX3_tell 20 = .ok (.aload_n 0, 1) := by decide +kernel
theorem dX3_tell_21 : decode cX3_tell 21 = .ok (.getfield 22, 3) := by decide +kernel
theorem dX3_tell_24 : decode cX3_tell 24 = .ok (.iload_n 2, 1) := by decide +kernel
theorem dX3_tell_25 : decode cX3_tell 25 = .ok (.iaload, 1) := by decide +kernel
theorem dX3_tell_26 : decode cX3_tell 26 = .ok (.iload_n 1, 1) := by decide +kernel
theorem dX3_tell_27 : decode cX3_tell 27 = .ok (.invokestatic 51, 3) := by decide +kernel
theorem dX3_tell_30 : decode cX3_tell 30 = .ok (.ifCond .ne 12, 3) := by decide +kernel
theorem dX3_tell_33 : decode cX3_tell 33 = .ok (.aload_n 0, 1) := by decide +kernel
theorem dX3_tell_34 : decode cX3_tell 34 = .ok (.iload_n 1, 1) := by decide +kernel
theorem dX3_tell_35 : decode cX3_tell 35 = .ok (.iload_n 2, 1) := by decide +kernel
theorem dX3_tell_36 : decode cX3_tell 36 = .ok (.invokevirtual 88, 3) := by decide +kernel
theorem dX3_tell_39 : decode cX3_tell 39 = .ok (.ifCond .eq 9, 3) := by decide +kernel
theorem dX3_tell_42 : decode cX3_tell 42 = .ok (.aload_n 0, 1) := by decide +kernel
theorem dX3_tell_43 : decode cX3_tell 43 = .ok (.iconst 2, 1) := by decide +kernel
theorem dX3_tell_44 : decode cX3_tell 44 = .ok (.invokevirtual 65, 3) := by decide +kernel
theorem dX3_tell_47 : decode cX3_tell 47 = .ok (.ireturn, 1) := by decide +kernel
theorem dX3_tell_48 : decode cX3_tell 48 = .ok (.aload_n 0, 1) := by decide +kernel
theorem dX3_tell_49 : decode cX3_tell 49 = .ok (.getfield 22, 3) := by decide +kernel
theorem dX3_tell_52 : decode cX3_tell 52 = .ok (.iload_n 2, 1) := by decide +kernel
theorem dX3_tell_53 : decode cX3_tell 53 = .ok (.dup2, 1) := by decide +kernel
theorem dX3_tell_54 : decode cX3_tell 54 = .ok (.iaload, 1) := by decide +kernel
theorem dX3_tell_55 : decode cX3_tell 55 = .ok (.iconst 1, 1) := by decide +kernel
theorem dX3_tell_56 : decode cX3_tell 56 = .ok (.iload_n 1, 1) := by decide +kernel
theorem dX3_tell_57 : decode cX3_tell 57 = .ok (.ishl, 1) := by decide +kernel
theorem dX3_tell_58 : decode cX3_tell 58 = .ok (.ior, 1) := by decide +kernel
theorem dX3_tell_59 : decode cX3_tell 59 = .ok (.iastore, 1) := by decide +kernel
theorem dX3_tell_60 : decode cX3_tell 60 = .ok (.aload_n 0, 1) := by decide +kernel
theorem dX3_tell_61 : decode cX3_tell 61 = .ok (.iload_n 1, 1) := by decide +kernel
theorem dX3_tell_62 : decode cX3_tell 62 = .ok (.invokevirtual 91, 3) := by decide +kernel
theorem dX3_tell_65 : decode cX3_tell 65 = .ok (.ireturn, 1) := by decide +kernel
set_option maxRecDepth 20000 in
theorem ggX3_forget_X3_isPlace : GoodIn wsX3_forget wsX3_isPlace := goodIn_r _ [7, 8, 9, 10, 6, 11, 12, 13, 14, 15, 16, 17, 18, 30, 31, 32, 33, 34, 35, 36, 37, 38, 39, 40, 41, 42, 43] (by decide +kernel) (by decide +kernel)
set_option maxRecDepth 20000 in
theorem gX3_forget_X3_isPlace : GoodIn wsX3_forget (wsV RX3 85 RX3 yX3_isPlace wsX3_isPlace) := goodIn_app (goodIn_of _ (by decide +kernel)) ggX3_forget_X3_isPlace
set_option maxRecDepth 20000 in
theorem ggX3_forget_X3_fail : GoodIn wsX3_forget wsX3_fail := goodIn_r _ [22, 1, 30, 31, 32, 33, 34, 35, 36, 37, 38, 39, 40, 41, 42, 43] (by decide +kernel) (by decide +kernel)
set_option maxRecDepth 20000 in
theorem gX3_forget_X3_fail : GoodIn wsX3_forget (wsV RX3 65 RX3 yX3_fail wsX3_fail) := goodIn_app (goodIn_of _ (by decide +kernel)) ggX3_forget_X3_fail
set_option maxRecDepth 20000 in
theorem ggX3_forget_X3_has : GoodIn wsX3_forget wsX3_has := goodIn_r _ [25] (by decide +kernel) (by decide +kernel)
set_option maxRecDepth 20000 in
theorem gX3_forget_X3_has : GoodIn wsX3_forget (va_wsS RX3 51 yX3_has wsX3_has) := goodIn_app (goodIn_of _ (by decide +kernel)) ggX3_forget_X3_has
set_option maxRecDepth 20000 in
theorem ggX3_forget_X3_placesOf : GoodIn wsX3_forget wsX3_placesOf := goodIn_r _ [29, 2, 23, 24, 6, 25, 30, 31, 32, 33, 34, 35, 36, 37, 38, 39, 40, 41, 42, 43] (by decide +kernel) (by decide +kernel)
set_option maxRecDepth 20000 in
theorem gX3_forget_X3_placesOf : GoodIn wsX3_forget (wsV RX3 91 RX3 yX3_placesOf wsX3_placesOf) := goodIn_app (goodIn_of _ (by decide +kernel)) ggX3_forget_X3_placesOf
theorem dX3_forget_0 : decode cX3_forget 0 = .ok (.aload_n 0, 1) := by decide +kernel
theorem dX3_forget_1 : decode cX3_forget 1 = .ok (.iconst 0, 1) := by decide +kernel
theorem dX3_forget_2 : decode cX3_forget 2 = .ok (.putfield 40, 3) := by decide +kernel
theorem dX3_forget_5 : decode cX3_forget 5 = .ok (.aload_n 0, 1) := by decide +kernel
theorem dX3_forget_6 : decode cX3_forget 6 = .ok (.iload_n 1, 1) := by decide +kernel
theorem dX3_forget_7 : decode cX3_forget 7 = .ok (.iload_n 2, 1) := by decide +kernel
theorem dX3_forget_8 : decode cX3_forget 8 = .ok (.invokevirtual 85, 3) := by decide +kernel
theorem dX3_forget_11 : decode cX3_forget 11 = .ok (.ifCond .ne 9, 3) := by decide +kernel
theorem dX3_forget_14 : decode cX3_forget 14 = .ok (.aload_n 0, 1) := by decide +kernel
theorem dX3_forget_15 : decode cX3_forget 15 = .ok (.iconst 1, 1) := by decide +kernel
theorem dX3_forget_16 : decode cX3_forget 16 = .ok (.invokevirtual 65, 3) := by decide +kernel
theorem dX3_forget_19 : decode cX3_forget 19 = .ok (.ireturn, 1) := by decide +kernel
theorem dX3_forget_20 : decode cX3_forget 20 = .ok (.aload_n 0, 1) := by decide +kernel
theorem dX3_forget_21 : decode cX3_forget 21 = .ok (.getfield 22, 3) := by decide +kernel
theorem dX3_forget_24 : decode cX3_forget 24 = .ok (.iload_n 2, 1) := by decide +kernel
theorem dX3_forget_25 : decode cX3_forget 25 = .ok (.iaload, 1) := by decide +kernel
theorem dX3_forget_26 : decode cX3_forget 26 = .ok (.iload_n 1, 1) := by decide +kernel
theorem dX3_forget_27 : decode cX3_forget 27 = .ok (.invokestatic 51, 3) := by decide +kernel
theorem dX3_forget_30 : decode cX3_forget 30 = .ok (.ifCond .ne 9, 3) := by decide +kernel
theorem dX3_forget_33 : decode cX3_forget 33 = .ok (.aload_n 0, 1) := by decide +kernel
theorem dX3_forget_34 : decode cX3_forget 34 = .ok (.iconst 2, 1) := by decide +kernel
theorem dX3_forget_35 : decode cX3_forget 35 = .ok (.invokevirtual 65, 3) := by decide +kernel
theorem dX3_forget_38 : decode cX3_forget 38 = .ok (.ireturn, 1) := by decide +kernel
theorem dX3_forget_39 : decode cX3_forget 39 = .ok (.aload_n 0, 1) := by decide +kernel
theorem dX3_forget_40 : decode cX3_forget 40 = .ok (.getfield 22, 3) := by decide +kernel
theorem dX3_forget_43 : decode cX3_forget 43 = .ok (.iload_n 2, 1) := by decide +kernel
theorem dX3_forget_44 : decode cX3_forget 44 = .ok (.dup2, 1) := by decide +kernel
theorem dX3_forget_45 : decode cX3_forget 45 = .ok (.iaload, 1) := by decide +kernel
theorem dX3_forget_46 : decode cX3_forget 46 = .ok (.iconst 1, 1) := by decide +kernel
theorem dX3_forget_47 : decode cX3_forget 47 = .ok (.iload_n 1, 1) := by decide +kernel
theorem dX3_forget_48 : decode cX3_forget 48 = .ok (.ishl, 1) := by decide +kernel
theorem dX3_forget_49 : decode cX3_forget 49 = .ok (.iconst (-1), 1) := by decide +kernel
theorem dX3_forget_50 : decode cX3_forget 50 = .ok (.ixor, 1) := by decide +kernel
theorem dX3_forget_51 : decode cX3_forget 51 = .ok (.iand, 1) := by decide +kernel
theorem dX3_forget_52 : decode cX3_forget 52 = .ok (.iastore, 1) := by decide +kernel
theorem dX3_forget_53 : decode cX3_forget 53 = .ok (.aload_n 0, 1) := by decide +kernel
theorem dX3_forget_54 : decode cX3_forget 54 = .ok (.iload_n 1, 1) := by decide +kernel
theorem dX3_forget_55 : decode cX3_forget 55 = .ok (.invokevirtual 91, 3) := by decide +kernel
theorem dX3_forget_58 : decode cX3_forget 58 = .ok (.ireturn, 1) := by decide +kernel
set_option maxRecDepth 20000 in
theorem ggX3_all_X3_many : GoodIn wsX3_all wsX3_many := goodIn_r _ [5] (by decide +kernel) (by decide +kernel)
set_option maxRecDepth 20000 in
theorem gX3_all_X3_many : GoodIn wsX3_all (va_wsS RX3 79 yX3_many wsX3_many) := goodIn_app (goodIn_of _ (by decide +kernel)) ggX3_all_X3_many
theorem dX3_all_0 : decode cX3_all 0 = .ok (.iconst 0, 1) := by decide +kernel
theorem dX3_all_1 : decode cX3_all 1 = .ok (.istore_n 1, 1) := by decide +kernel
theorem dX3_all_2 : decode cX3_all 2 = .ok (.aload_n 0, 1) := by decide +kernel
theorem dX3_all_3 : decode cX3_all 3 = .ok (.getfield 22, 3) := by decide +kernel
theorem dX3_all_6 : decode cX3_all 6 = .ok (.astore_n 2, 1) := by decide +kernel
theorem dX3_all_7 : decode cX3_all 7 = .ok (.aload_n 2, 1) := by decide +kernel
theorem dX3_all_8 : decode cX3_all 8 = .ok (.arraylength, 1) := by decide +kernel
theorem dX3_all_9 : decode cX3_all 9 = .ok (.istore_n 3, 1) := by decide +kernel
theorem dX3_all_10 : decode cX3_all 10 = .ok (.iconst 0, 1) := by decide +kernel
theorem dX3_all_11 : decode cX3_all 11 = .ok (.istore 4, 2) := by decide +kernel
theorem dX3_all_13 : decode cX3_all 13 = .ok (.iload 4, 2) := by decide +kernel
theorem dX3_all_15 : decode cX3_all 15 = .ok (.iload_n 3, 1) := by decide +kernel
theorem dX3_all_16 : decode cX3_all 16 = .ok (.if_icmp .ge 23, 3) := by decide +kernel
theorem dX3_all_19 : decode cX3_all 19 = .ok (.aload_n 2, 1) := by decide +kernel
theorem dX3_all_20 : decode cX3_all 20 = .ok (.iload 4, 2) := by decide +kernel
theorem dX3_all_22 : decode cX3_all 22 = .ok (.iaload, 1) := by decide +kernel
theorem dX3_all_23 : decode cX3_all 23 = .ok (.istore 5, 2) := by decide +kernel
theorem dX3_all_25 : decode cX3_all 25 = .ok (.iload_n 1, 1) := by decide +kernel
theorem dX3_all_26 : decode cX3_all 26 = .ok (.iload 5, 2) := by decide +kernel
theorem dX3_all_28 : decode cX3_all 28 = .ok (.invokestatic 79, 3) := by decide +kernel
theorem dX3_all_31 : decode cX3_all 31 = .ok (.iadd, 1) := by decide +kernel
theorem dX3_all_32 : decode cX3_all 32 = .ok (.istore_n 1, 1) := by decide +kernel
theorem dX3_all_33 : decode cX3_all 33 = .ok (.iinc 4 1, 3) := by decide +kernel
theorem dX3_all_36 : decode cX3_all 36 = .ok (.goto (-23), 3) := by decide +kernel
theorem dX3_all_39 : decode cX3_all 39 = .ok (.iload_n 1, 1) := by decide +kernel
theorem dX3_all_40 : decode cX3_all 40 = .ok (.ireturn, 1) := by decide +kernel
set_option maxRecDepth 20000 in
theorem ggX3_comes_X3_banned : GoodIn wsX3_comes wsX3_banned := goodIn_r _ [9, 1, 2, 10, 11, 12, 13, 8, 14, 15, 16, 17, 18, 19, 20, 21, 22, 23, 24, 25, 26, 27, 28] (by decide +kernel) (by decide +kernel)
set_option maxRecDepth 20000 in
theorem gX3_comes_X3_banned : GoodIn wsX3_comes (wsV RX3 88 RX3 yX3_banned wsX3_banned) := goodIn_app (goodIn_of _ (by decide +kernel)) ggX3_comes_X3_banned
set_option maxRecDepth 20000 in
theorem ggX3_comes_X3_has : GoodIn wsX3_comes wsX3_has := goodIn_r _ [14] (by decide +kernel) (by decide +kernel)
set_option maxRecDepth 20000 in
theorem gX3_comes_X3_has : GoodIn wsX3_comes (va_wsS RX3 51 yX3_has wsX3_has) := goodIn_app (goodIn_of _ (by decide +kernel)) ggX3_comes_X3_has
theorem dX3_comes_0 : decode cX3_comes 0 = .ok (.aload_n 0, 1) := by decide +kernel
theorem dX3_comes_1 : decode cX3_comes 1 = .ok (.iload_n 1, 1) := by decide +kernel
theorem dX3_comes_2 : decode cX3_comes 2 = .ok (.iload_n 2, 1) := by decide +kernel
theorem dX3_comes_3 : decode cX3_comes 3 = .ok (.invokevirtual 88, 3) := by decide +kernel
theorem dX3_comes_6 : decode cX3_comes 6 = .ok (.ifCond .ne 5, 3) := by decide +kernel
theorem dX3_comes_9 : decode cX3_comes 9 = .ok (.iload_n 1, 1) := by decide +kernel
theorem dX3_comes_10 : decode cX3_comes 10 = .ok (.ireturn, 1) := by decide +kernel
theorem dX3_comes_11 : decode cX3_comes 11 = .ok (.aload_n 0, 1) := by decide +kernel
theorem dX3_comes_12 : decode cX3_comes 12 = .ok (.getfield 25, 3) := by decide +kernel
theorem dX3_comes_15 : decode cX3_comes 15 = .ok (.iload_n 2, 1) := by decide +kernel
theorem dX3_comes_16 : decode cX3_comes 16 = .ok (.iaload, 1) := by decide +kernel
theorem dX3_comes_17 : decode cX3_comes 17 = .ok (.aload_n 0, 1) := by decide +kernel
theorem dX3_comes_18 : decode cX3_comes 18 = .ok (.getfield 9, 3) := by decide +kernel
theorem dX3_comes_21 : decode cX3_comes 21 = .ok (.iload_n 1, 1) := by decide +kernel
theorem dX3_comes_22 : decode cX3_comes 22 = .ok (.iaload, 1) := by decide +kernel
theorem dX3_comes_23 : decode cX3_comes 23 = .ok (.invokestatic 51, 3) := by decide +kernel
theorem dX3_comes_26 : decode cX3_comes 26 = .ok (.ifCond .eq 5, 3) := by decide +kernel
theorem dX3_comes_29 : decode cX3_comes 29 = .ok (.iconst (-1), 1) := by decide +kernel
theorem dX3_comes_30 : decode cX3_comes 30 = .ok (.ireturn, 1) := by decide +kernel
theorem dX3_comes_31 : decode cX3_comes 31 = .ok (.iconst 0, 1) := by decide +kernel
theorem dX3_comes_32 : decode cX3_comes 32 = .ok (.istore_n 3, 1) := by decide +kernel
theorem dX3_comes_33 : decode cX3_comes 33 = .ok (.iload_n 3, 1) := by decide +kernel
theorem dX3_comes_34 : decode cX3_comes 34 = .ok (.aload_n 0, 1) := by decide +kernel
theorem dX3_comes_35 : decode cX3_comes 35 = .ok (.getfield 44, 3) := by decide +kernel
theorem dX3_comes_38 : decode cX3_comes 38 = .ok (.if_icmp .ge 30, 3) := by decide +kernel
theorem dX3_comes_41 : decode cX3_comes 41 = .ok (.aload_n 0, 1) := by decide +kernel
theorem dX3_comes_42 : decode cX3_comes 42 = .ok (.getfield 19, 3) := by decide +kernel
theorem dX3_comes_45 : decode cX3_comes 45 = .ok (.iload_n 3, 1) := by decide +kernel
theorem dX3_comes_46 : decode cX3_comes 46 = .ok (.iaload, 1) := by decide +kernel
theorem dX3_comes_47 : decode cX3_comes 47 = .ok (.iload_n 1, 1) := by decide +kernel
theorem dX3_comes_48 : decode cX3_comes 48 = .ok (.if_icmp .ne 14, 3) := by decide +kernel
theorem dX3_comes_51 : decode cX3_comes 51 = .ok (.aload_n 0, 1) := by decide +kernel
theorem dX3_comes_52 : decode cX3_comes 52 = .ok (.iload_n 3, 1) := by decide +kernel
theorem dX3_comes_53 : decode cX3_comes 53 = .ok (.iload_n 2, 1) := by decide +kernel
theorem dX3_comes_54 : decode cX3_comes 54 = .ok (.invokevirtual 88, 3) := by decide +kernel
theorem dX3_comes_57 : decode cX3_comes 57 = .ok (.ifCond .ne 5, 3) := by decide +kernel
theorem dX3_comes_60 : decode cX3_comes 60 = .ok (.iload_n 3, 1) := by decide +kernel
theorem dX3_comes_61 : decode cX3_comes 61 = .ok (.ireturn, 1) := by decide +kernel
theorem dX3_comes_62 : decode cX3_comes 62 = .ok (.iinc 3 1, 3) := by decide +kernel
theorem dX3_comes_65 : decode cX3_comes 65 = .ok (.goto (-32), 3) := by decide +kernel
theorem dX3_comes_68 : decode cX3_comes 68 = .ok (.iconst (-1), 1) := by decide +kernel
theorem dX3_comes_69 : decode cX3_comes 69 = .ok (.ireturn, 1) := by decide +kernel
set_option maxRecDepth 20000 in
theorem ggX3_seasonOn_X3_has : GoodIn wsX3_seasonOn wsX3_has := goodIn_r _ [12] (by decide +kernel) (by decide +kernel)
set_option maxRecDepth 20000 in
theorem gX3_seasonOn_X3_has : GoodIn wsX3_seasonOn (va_wsS RX3 51 yX3_has wsX3_has) := goodIn_app (goodIn_of _ (by decide +kernel)) ggX3_seasonOn_X3_has
set_option maxRecDepth 20000 in
theorem ggX3_seasonOn_X3_banned : GoodIn wsX3_seasonOn wsX3_banned := goodIn_r _ [16, 17, 18, 19, 20, 9, 10, 11, 12, 26, 27, 28, 29, 30, 31, 32, 33, 34, 35, 36, 37, 38, 39] (by decide +kernel) (by decide +kernel)
set_option maxRecDepth 20000 in
theorem gX3_seasonOn_X3_banned : GoodIn wsX3_seasonOn (wsV RX3 88 RX3 yX3_banned wsX3_banned) := goodIn_app (goodIn_of _ (by decide +kernel)) ggX3_seasonOn_X3_banned
set_option maxRecDepth 20000 in
theorem ggX3_seasonOn_X3_comes : GoodIn wsX3_seasonOn wsX3_comes := goodIn_r _ [24, 17, 18, 1, 25, 13, 14, 15, 11, 16, 19, 20, 9, 10, 12, 26, 27, 28, 29, 30, 31, 32, 33, 34, 35, 36, 37, 38, 39] (by decide +kernel) (by decide +kernel)
set_option maxRecDepth 20000 in
theorem gX3_seasonOn_X3_comes : GoodIn wsX3_seasonOn (wsV RX3 94 RX3 yX3_comes wsX3_comes) := goodIn_app (goodIn_of _ (by decide +kernel)) ggX3_seasonOn_X3_comes
theorem dX3_seasonOn_0 : decode cX3_seasonOn 0 = .ok (.iconst 0, 1) := by decide +kernel
theorem dX3_seasonOn_1 : decode cX3_seasonOn 1 = .ok (.istore_n 1, 1) := by decide +kernel
theorem dX3_seasonOn_2 : decode cX3_seasonOn 2 = .ok (.iconst 0, 1) := by decide +kernel
theorem dX3_seasonOn_3 : decode cX3_seasonOn 3 = .ok (.istore_n 2, 1) := by decide +kernel
theorem dX3_seasonOn_4 : decode cX3_seasonOn 4 = .ok (.iload_n 2, 1) := by decide +kernel
theorem dX3_seasonOn_5 : decode cX3_seasonOn 5 = .ok (.bipush 6, 2) := by decide +kernel
theorem dX3_seasonOn_7 : decode cX3_seasonOn 7 = .ok (.if_icmp .ge 79, 3) := by decide +kernel
theorem dX3_seasonOn_10 : decode cX3_seasonOn 10 = .ok (.iconst 0, 1) := by decide +kernel
theorem dX3_seasonOn_11 : decode cX3_seasonOn 11 = .ok (.istore_n 3, 1) := by decide +kernel
theorem dX3_seasonOn_12 : decode cX3_seasonOn 12 = .ok (.iload_n 3, 1) := by decide +kernel
theorem dX3_seasonOn_13 : decode cX3_seasonOn 13 = .ok (.aload_n 0, 1) := by decide +kernel
theorem dX3_seasonOn_14 : decode cX3_seasonOn 14 = .ok (.getfield 44, 3) := by decide +kernel
theorem dX3_seasonOn_17 : decode cX3_seasonOn 17 = .ok (.if_icmp .ge 51, 3) := by decide +kernel
theorem dX3_seasonOn_20 : decode cX3_seasonOn 20 = .ok (.aload_n 0, 1) := by decide +kernel
theorem dX3_seasonOn_21 : decode cX3_seasonOn 21 = .ok (.getfield 22, 3) := by decide +kernel
theorem dX3_seasonOn_24 : decode cX3_seasonOn 24 = .ok (.iload_n 2, 1) := by decide +kernel
theorem dX3_seasonOn_25 : decode cX3_seasonOn 25 = .ok (.iaload, 1) := by decide +kernel
theorem dX3_seasonOn_26 : decode cX3_seasonOn 26 = .ok (.iload_n 3, 1) := by decide +kernel
theorem dX3_seasonOn_27 : decode cX3_seasonOn 27 = .ok (.invokestatic 51, 3) := by decide +kernel
theorem dX3_seasonOn_30 : decode cX3_seasonOn 30 = .ok (.ifCond .eq 32, 3) := by decide +kernel
theorem dX3_seasonOn_33 : decode cX3_seasonOn 33 = .ok (.aload_n 0, 1) := by decide +kernel
theorem dX3_seasonOn_34 : decode cX3_seasonOn 34 = .ok (.iload_n 3, 1) := by decide +kernel
theorem dX3_seasonOn_35 : decode cX3_seasonOn 35 = .ok (.iload_n 2, 1) := by decide +kernel
theorem dX3_seasonOn_36 : decode cX3_seasonOn 36 = .ok (.invokevirtual 88, 3) := by decide +kernel
theorem dX3_seasonOn_39 : decode cX3_seasonOn 39 = .ok (.ifCond .ne 6, 3) := by decide +kernel
theorem dX3_seasonOn_42 : decode cX3_seasonOn 42 = .ok (.goto 20, 3) := by decide +kernel
theorem dX3_seasonOn_45 : decode cX3_seasonOn 45 = .ok (.aload_n 0, 1) := by decide +kernel
theorem dX3_seasonOn_46 : decode cX3_seasonOn 46 = .ok (.getfield 22, 3) := by decide +kernel
theorem dX3_seasonOn_49 : decode cX3_seasonOn 49 = .ok (.iload_n 2, 1) := by decide +kernel
theorem dX3_seasonOn_50 : decode cX3_seasonOn 50 = .ok (.dup2, 1) := by decide +kernel
theorem dX3_seasonOn_51 : decode cX3_seasonOn 51 = .ok (.iaload, 1) := by decide +kernel
theorem dX3_seasonOn_52 : decode cX3_seasonOn 52 = .ok (.iconst 1, 1) := by decide +kernel
theorem dX3_seasonOn_53 : decode cX3_seasonOn 53 = .ok (.iload_n 3, 1) := by decide +kernel
theorem dX3_seasonOn_54 : decode cX3_seasonOn 54 = .ok (.ishl, 1) := by decide +kernel
theorem dX3_seasonOn_55 : decode cX3_seasonOn 55 = .ok (.iconst (-1), 1) := by decide +kernel
theorem dX3_seasonOn_56 : decode cX3_seasonOn 56 = .ok (.ixor, 1) := by decide +kernel
theorem dX3_seasonOn_57 : decode cX3_seasonOn 57 = .ok (.iand, 1) := by decide +kernel
theorem dX3_seasonOn_58 : decode cX3_seasonOn 58 = .ok (.iastore, 1) := by decide +kernel
theorem dX3_seasonOn_59 : decode cX3_seasonOn 59 = .ok (.iinc 1 1, 3) := by decide +kernel
theorem dX3_seasonOn_62 : decode cX3_seasonOn 62 = .ok (.iinc 3 1, 3) := by decide +kernel
theorem dX3_seasonOn_65 : decode cX3_seasonOn 65 = .ok (.goto (-53), 3) := by decide +kernel
theorem dX3_seasonOn_68 : decode cX3_seasonOn 68 = .ok (.aload_n 0, 1) := by decide +kernel
theorem dX3_seasonOn_69 : decode cX3_seasonOn 69 = .ok (.getfield 34, 3) := by decide +kernel
theorem dX3_seasonOn_72 : decode cX3_seasonOn 72 = .ok (.iload_n 2, 1) := by decide +kernel
theorem dX3_seasonOn_73 : decode cX3_seasonOn 73 = .ok (.aload_n 0, 1) := by decide +kernel
theorem dX3_seasonOn_74 : decode cX3_seasonOn 74 = .ok (.getfield 22, 3) := by decide +kernel
theorem dX3_seasonOn_77 : decode cX3_seasonOn 77 = .ok (.iload_n 2, 1) := by decide +kernel
theorem dX3_seasonOn_78 : decode cX3_seasonOn 78 = .ok (.iaload, 1) := by decide +kernel
theorem dX3_seasonOn_79 : decode cX3_seasonOn 79 = .ok (.iastore, 1) := by decide +kernel
theorem dX3_seasonOn_80 : decode cX3_seasonOn 80 = .ok (.iinc 2 1, 3) := by decide +kernel
theorem dX3_seasonOn_83 : decode cX3_seasonOn 83 = .ok (.goto (-79), 3) := by decide +kernel
theorem dX3_seasonOn_86 : decode cX3_seasonOn 86 = .ok (.iconst 0, 1) := by decide +kernel
theorem dX3_seasonOn_87 : decode cX3_seasonOn 87 = .ok (.istore_n 2, 1) := by decide +kernel
theorem dX3_seasonOn_88 : decode cX3_seasonOn 88 = .ok (.iload_n 2, 1) := by decide +kernel
theorem dX3_seasonOn_89 : decode cX3_seasonOn 89 = .ok (.bipush 6, 2) := by decide +kernel
theorem dX3_seasonOn_91 : decode cX3_seasonOn 91 = .ok (.if_icmp .ge 103, 3) := by decide +kernel
theorem dX3_seasonOn_94 : decode cX3_seasonOn 94 = .ok (.iconst 0, 1) := by decide +kernel
theorem dX3_seasonOn_95 : decode cX3_seasonOn 95 = .ok (.istore_n 3, 1) := by decide +kernel
theorem dX3_seasonOn_96 : decode cX3_seasonOn 96 = .ok (.iload_n 3, 1) := by decide +kernel
theorem dX3_seasonOn_97 : decode cX3_seasonOn 97 = .ok (.bipush 6, 2) := by decide +kernel
theorem dX3_seasonOn_99 : decode cX3_seasonOn 99 = .ok (.if_icmp .ge 89, 3) := by decide +kernel
theorem dX3_seasonOn_102 : decode cX3_seasonOn 102 = .ok (.aload_n 0, 1) := by decide +kernel
theorem dX3_seasonOn_103 : decode cX3_seasonOn 103 = .ok (.getfield 31, 3) := by decide +kernel
theorem dX3_seasonOn_106 : decode cX3_seasonOn 106 = .ok (.iload_n 2, 1) := by decide +kernel
theorem dX3_seasonOn_107 : decode cX3_seasonOn 107 = .ok (.iaload, 1) := by decide +kernel
theorem dX3_seasonOn_108 : decode cX3_seasonOn 108 = .ok (.iload_n 3, 1) := by decide +kernel
theorem dX3_seasonOn_109 : decode cX3_seasonOn 109 = .ok (.invokestatic 51, 3) := by decide +kernel
theorem dX3_seasonOn_112 : decode cX3_seasonOn 112 = .ok (.ifCond .ne 6, 3) := by decide +kernel
theorem dX3_seasonOn_115 : decode cX3_seasonOn 115 = .ok (.goto 67, 3) := by decide +kernel
theorem dX3_seasonOn_118 : decode cX3_seasonOn 118 = .ok (.iconst 0, 1) := by decide +kernel
theorem dX3_seasonOn_119 : decode cX3_seasonOn 119 = .ok (.istore 4, 2) := by decide +kernel
theorem dX3_seasonOn_121 : decode cX3_seasonOn 121 = .ok (.iload 4, 2) := by decide +kernel
theorem dX3_seasonOn_123 : decode cX3_seasonOn 123 = .ok (.aload_n 0, 1) := by decide +kernel
theorem dX3_seasonOn_124 : decode cX3_seasonOn 124 = .ok (.getfield 44, 3) := by decide +kernel
theorem dX3_seasonOn_127 : decode cX3_seasonOn 127 = .ok (.if_icmp .ge 55, 3) := by decide +kernel
theorem dX3_seasonOn_130 : decode cX3_seasonOn 130 = .ok (.aload_n 0, 1) := by decide +kernel
theorem dX3_seasonOn_131 : decode cX3_seasonOn 131 = .ok (.getfield 22, 3) := by decide +kernel
theorem dX3_seasonOn_134 : decode cX3_seasonOn 134 = .ok (.iload_n 2, 1) := by decide +kernel
theorem dX3_seasonOn_135 : decode cX3_seasonOn 135 = .ok (.iaload, 1) := by decide +kernel
theorem dX3_seasonOn_136 : decode cX3_seasonOn 136 = .ok (.iload 4, 2) := by decide +kernel
theorem dX3_seasonOn_138 : decode cX3_seasonOn 138 = .ok (.invokestatic 51, 3) := by decide +kernel
theorem dX3_seasonOn_141 : decode cX3_seasonOn 141 = .ok (.ifCond .eq 13, 3) := by decide +kernel
theorem dX3_seasonOn_144 : decode cX3_seasonOn 144 = .ok (.aload_n 0, 1) := by decide +kernel
theorem dX3_seasonOn_145 : decode cX3_seasonOn 145 = .ok (.iload 4, 2) := by decide +kernel
theorem dX3_seasonOn_147 : decode cX3_seasonOn 147 = .ok (.iload_n 3, 1) := by decide +kernel
theorem dX3_seasonOn_148 : decode cX3_seasonOn 148 = .ok (.invokevirtual 94, 3) := by decide +kernel
theorem dX3_seasonOn_151 : decode cX3_seasonOn 151 = .ok (.goto 4, 3) := by decide +kernel
theorem dX3_seasonOn_154 : decode cX3_seasonOn 154 = .ok (.iconst (-1), 1) := by decide +kernel
theorem dX3_seasonOn_155 : decode cX3_seasonOn 155 = .ok (.istore 5, 2) := by decide +kernel
theorem dX3_seasonOn_157 : decode cX3_seasonOn 157 = .ok (.iload 5, 2) := by decide +kernel
theorem dX3_seasonOn_159 : decode cX3_seasonOn 159 = .ok (.iconst (-1), 1) := by decide +kernel
theorem dX3_seasonOn_160 : decode cX3_seasonOn 160 = .ok (.if_icmp .eq 16, 3) := by decide +kernel
theorem dX3_seasonOn_163 : decode cX3_seasonOn 163 = .ok (.aload_n 0, 1) := by decide +kernel
theorem dX3_seasonOn_164 : decode cX3_seasonOn 164 = .ok (.getfield 34, 3) := by decide +kernel
theorem dX3_seasonOn_167 : decode cX3_seasonOn 167 = .ok (.iload_n 3, 1) := by decide +kernel
theorem dX3_seasonOn_168 : decode cX3_seasonOn 168 = .ok (.dup2, 1) := by decide +kernel
theorem dX3_seasonOn_169 : decode cX3_seasonOn 169 = .ok (.iaload, 1) := by decide +kernel
theorem dX3_seasonOn_170 : decode cX3_seasonOn 170 = .ok (.iconst 1, 1) := by decide +kernel
theorem dX3_seasonOn_171 : decode cX3_seasonOn 171 = .ok (.iload 5, 2) := by decide +kernel
theorem dX3_seasonOn_173 : decode cX3_seasonOn 173 = .ok (.ishl, 1) := by decide +kernel
theorem dX3_seasonOn_174 : decode cX3_seasonOn 174 = .ok (.ior, 1) := by decide +kernel
theorem dX3_seasonOn_175 : decode cX3_seasonOn 175 = .ok (.iastore, 1) := by decide +kernel
theorem dX3_seasonOn_176 : decode cX3_seasonOn 176 = .ok (.iinc 4 1, 3) := by decide +kernel
theorem dX3_seasonOn_179 : decode cX3_seasonOn 179 = .ok (.goto (-58), 3) := by decide +kernel
theorem dX3_seasonOn_182 : decode cX3_seasonOn 182 = .ok (.iinc 3 1, 3) := by decide +kernel
theorem dX3_seasonOn_185 : decode cX3_seasonOn 185 = .ok (.goto (-89), 3) := by decide +kernel
theorem dX3_seasonOn_188 : decode cX3_seasonOn 188 = .ok (.iinc 2 1, 3) := by decide +kernel
theorem dX3_seasonOn_191 : decode cX3_seasonOn 191 = .ok (.goto (-103), 3) := by decide +kernel
theorem dX3_seasonOn_194 : decode cX3_seasonOn 194 = .ok (.aload_n 0, 1) := by decide +kernel
theorem dX3_seasonOn_195 : decode cX3_seasonOn 195 = .ok (.getfield 34, 3) := by decide +kernel
theorem dX3_seasonOn_198 : decode cX3_seasonOn 198 = .ok (.iconst 0, 1) := by decide +kernel
theorem dX3_seasonOn_199 : decode cX3_seasonOn 199 = .ok (.aload_n 0, 1) := by decide +kernel
theorem dX3_seasonOn_200 : decode cX3_seasonOn 200 = .ok (.getfield 22, 3) := by decide +kernel
theorem dX3_seasonOn_203 : decode cX3_seasonOn 203 = .ok (.iconst 0, 1) := by decide +kernel
theorem dX3_seasonOn_204 : decode cX3_seasonOn 204 = .ok (.bipush 6, 2) := by decide +kernel
theorem dX3_seasonOn_206 : decode cX3_seasonOn 206 = .ok (.invokestatic 98, 3) := by decide +kernel
theorem dX3_seasonOn_209 : decode cX3_seasonOn 209 = .ok (.iload_n 1, 1) := by decide +kernel
theorem dX3_seasonOn_210 : decode cX3_seasonOn 210 = .ok (.ireturn, 1) := by decide +kernel
set_option maxRecDepth 20000 in
theorem ggX3_passSeasons_X3_isIn : GoodIn wsX3_passSeasons wsX3_isIn := goodIn_r _ [7] (by decide +kernel) (by decide +kernel)
set_option maxRecDepth 20000 in
theorem gX3_passSeasons_X3_isIn : GoodIn wsX3_passSeasons (va_wsS RX3 47 yX3_isIn wsX3_isIn) := goodIn_app (goodIn_of _ (by decide +kernel)) ggX3_passSeasons_X3_isIn
set_option maxRecDepth 20000 in
theorem ggX3_passSeasons_X3_fail : GoodIn wsX3_passSeasons wsX3_fail := goodIn_r _ [11, 1, 47, 48, 49, 50, 51, 52, 53, 54, 55, 56, 57, 58, 59, 60] (by decide +kernel) (by decide +kernel)
set_option maxRecDepth 20000 in
theorem gX3_passSeasons_X3_fail : GoodIn wsX3_passSeasons (wsV RX3 65 RX3 yX3_fail wsX3_fail) := goodIn_app (goodIn_of _ (by decide +kernel)) ggX3_passSeasons_X3_fail
set_option maxRecDepth 20000 in
theorem ggX3_passSeasons_X3_seasonOn : GoodIn wsX3_passSeasons wsX3_seasonOn := goodIn_r _ [15, 16, 17, 18, 19, 20, 21, 22, 23, 24, 25, 6, 26, 27, 28, 29, 30, 31, 32, 33, 34, 35, 36, 37, 38, 39, 47, 48, 49, 50, 51, 52, 53, 54, 55, 56, 57, 58, 59, 60] (by decide +kernel) (by decide +kernel)
set_option maxRecDepth 20000 in
theorem gX3_passSeasons_X3_seasonOn : GoodIn wsX3_passSeasons (wsV RX3 107 RX3 yX3_seasonOn wsX3_seasonOn) := goodIn_app (goodIn_of _ (by decide +kernel)) ggX3_passSeasons_X3_seasonOn
set_option maxRecDepth 20000 in
theorem ggX3_passSeasons_X3_all : GoodIn wsX3_passSeasons wsX3_all := goodIn_r _ [43, 17, 44, 45, 6, 46, 47, 48, 49, 50, 51, 52, 53, 54, 55, 56, 57, 58, 59, 60] (by decide +kernel) (by decide +kernel)
set_option maxRecDepth 20000 in
theorem gX3_passSeasons_X3_all : GoodIn wsX3_passSeasons (wsV RX3 114 RX3 yX3_all wsX3_all) := goodIn_app (goodIn_of _ (by decide +kernel)) ggX3_passSeasons_X3_all
theorem dX3_passSeasons_0 : decode cX3_passSeasons 0 = .ok (.aload_n 0, 1) := by decide +kernel
theorem dX3_passSeasons_1 : decode cX3_passSeasons 1 = .ok (.iconst 0, 1) := by decide +kernel
theorem dX3_passSeasons_2 : decode cX3_passSeasons 2 = .ok (.putfield 40, 3) := by decide +kernel
theorem dX3_passSeasons_5 : decode cX3_passSeasons 5 = .ok (.iload_n 1, 1) := by decide +kernel
theorem dX3_passSeasons_6 : decode cX3_passSeasons 6 = .ok (.iconst 1, 1) := by decide +kernel
theorem dX3_passSeasons_7 : decode cX3_passSeasons 7 = .ok (.bipush 40, 2) := by decide +kernel
theorem dX3_passSeasons_9 : decode cX3_passSeasons 9 = .ok (.invokestatic 47, 3) := by decide +kernel
theorem dX3_passSeasons_12 : decode cX3_passSeasons 12 = .ok (.ifCond .ne 9, 3) := by decide +kernel
theorem dX3_passSeasons_15 : decode cX3_passSeasons 15 = .ok (.aload_n 0, 1) := by decide +kernel
theorem dX3_passSeasons_16 : decode cX3_passSeasons 16 = .ok (.iconst 1, 1) := by decide +kernel
theorem dX3_passSeasons_17 : decode cX3_passSeasons 17 = .ok (.invokevirtual 65, 3) := by decide +kernel
theorem dX3_passSeasons_20 : decode cX3_passSeasons 20 = .ok (.ireturn, 1) := by decide +kernel
theorem dX3_passSeasons_21 : decode cX3_passSeasons 21 = .ok (.iconst 0, 1) := by decide +kernel
theorem dX3_passSeasons_22 : decode cX3_passSeasons 22 = .ok (.istore_n 2, 1) := by decide +kernel
theorem dX3_passSeasons_23 : decode cX3_passSeasons 23 = .ok (.iload_n 2, 1) := by decide +kernel
theorem dX3_passSeasons_24 : decode cX3_passSeasons 24 = .ok (.iload_n 1, 1) := by decide +kernel
theorem dX3_passSeasons_25 : decode cX3_passSeasons 25 = .ok (.if_icmp .ge 22, 3) := by decide +kernel
theorem dX3_passSeasons_28 : decode cX3_passSeasons 28 = .ok (.aload_n 0, 1) := by decide +kernel
theorem dX3_passSeasons_29 : decode cX3_passSeasons 29 = .ok (.dup, 1) := by decide +kernel
theorem dX3_passSeasons_30 : decode cX3_passSeasons 30 = .ok (.getfield 104, 3) := by decide +kernel
theorem dX3_passSeasons_33 : decode cX3_passSeasons 33 = .ok (.aload_n 0, 1) := by decide +kernel
theorem dX3_passSeasons_34 : decode cX3_passSeasons 34 = .ok (.invokevirtual 107, 3) := by decide +kernel
theorem dX3_passSeasons_37 : decode cX3_passSeasons 37 = .ok (.iadd, 1) := by decide +kernel
theorem dX3_passSeasons_38 : decode cX3_passSeasons 38 = .ok (.putfield 104, 3) := by decide +kernel
theorem dX3_passSeasons_41 : decode cX3_passSeasons 41 = .ok (.iinc 2 1, 3) := by decide +kernel
theorem dX3_passSeasons_44 : decode cX3_passSeasons 44 = .ok (.goto (-21), 3) := by decide +kernel
theorem dX3_passSeasons_47 : decode cX3_passSeasons 47 = .ok (.aload_n 0, 1) := by decide +kernel
theorem dX3_passSeasons_48 : decode cX3_passSeasons 48 = .ok (.dup, 1) := by decide +kernel
theorem dX3_passSeasons_49 : decode cX3_passSeasons 49 = .ok (.getfield 111, 3) := by decide +kernel
theorem dX3_passSeasons_52 : decode cX3_passSeasons 52 = .ok (.iload_n 1, 1) := by decide +kernel
theorem dX3_passSeasons_53 : decode cX3_passSeasons 53 = .ok (.iadd, 1) := by decide +kernel
theorem dX3_passSeasons_54 : decode cX3_passSeasons 54 = .ok (.putfield 111, 3) := by decide +kernel
theorem dX3_passSeasons_57 : decode cX3_passSeasons 57 = .ok (.aload_n 0, 1) := by decide +kernel
theorem dX3_passSeasons_58 : decode cX3_passSeasons 58 = .ok (.invokevirtual 114, 3) := by decide +kernel
theorem dX3_passSeasons_61 : decode cX3_passSeasons 61 = .ok (.ireturn, 1) := by decide +kernel
set_option maxRecDepth 20000 in
theorem ggX3_moralOf_X3_isFable : GoodIn wsX3_moralOf wsX3_isFable := goodIn_r _ [7, 8, 9, 10, 6, 11, 16, 17, 18, 19, 20, 21, 22, 23, 24, 25, 26, 27, 28, 29] (by decide +kernel) (by decide +kernel)
set_option maxRecDepth 20000 in
theorem gX3_moralOf_X3_isFable : GoodIn wsX3_moralOf (wsV RX3 73 RX3 yX3_isFable wsX3_isFable) := goodIn_app (goodIn_of _ (by decide +kernel)) ggX3_moralOf_X3_isFable
set_option maxRecDepth 20000 in
theorem ggX3_moralOf_X3_fail : GoodIn wsX3_moralOf wsX3_fail := goodIn_r _ [15, 1, 16, 17, 18, 19, 20, 21, 22, 23, 24, 25, 26, 27, 28, 29] (by decide +kernel) (by decide +kernel)
set_option maxRecDepth 20000 in
theorem gX3_moralOf_X3_fail : GoodIn wsX3_moralOf (wsV RX3 65 RX3 yX3_fail wsX3_fail) := goodIn_app (goodIn_of _ (by decide +kernel)) ggX3_moralOf_X3_fail
theorem dX3_moralOf_0 : decode cX3_moralOf 0 = .ok (.aload_n 0, 1) := by decide +kernel
theorem dX3_moralOf_1 : decode cX3_moralOf 1 = .ok (.iconst 0, 1) := by decide +kernel
theorem dX3_moralOf_2 : decode cX3_moralOf 2 = .ok (.putfield 40, 3) := by decide +kernel
theorem dX3_moralOf_5 : decode cX3_moralOf 5 = .ok (.aload_n 0, 1) := by decide +kernel
theorem dX3_moralOf_6 : decode cX3_moralOf 6 = .ok (.iload_n 1, 1) := by decide +kernel
theorem dX3_moralOf_7 : decode cX3_moralOf 7 = .ok (.invokevirtual 73, 3) := by decide +kernel
theorem dX3_moralOf_10 : decode cX3_moralOf 10 = .ok (.ifCond .eq 12, 3) := by decide +kernel
theorem dX3_moralOf_13 : decode cX3_moralOf 13 = .ok (.aload_n 0, 1) := by decide +kernel
theorem dX3_moralOf_14 : decode cX3_moralOf 14 = .ok (.getfield 9, 3) := by decide +kernel
theorem dX3_moralOf_17 : decode cX3_moralOf 17 = .ok (.iload_n 1, 1) := by decide +kernel
theorem dX3_moralOf_18 : decode cX3_moralOf 18 = .ok (.iaload, 1) := by decide +kernel
theorem dX3_moralOf_19 : decode cX3_moralOf 19 = .ok (.goto 8, 3) := by decide +kernel
theorem dX3_moralOf_22 : decode cX3_moralOf 22 = .ok (.aload_n 0, 1) := by decide +kernel
theorem dX3_moralOf_23 : decode cX3_moralOf 23 = .ok (.iconst 1, 1) := by decide +kernel
theorem dX3_moralOf_24 : decode cX3_moralOf 24 = .ok (.invokevirtual 65, 3) := by decide +kernel
theorem dX3_moralOf_27 : decode cX3_moralOf 27 = .ok (.ireturn, 1) := by decide +kernel
set_option maxRecDepth 20000 in
theorem ggX3_beastsOf_X3_isFable : GoodIn wsX3_beastsOf wsX3_isFable := goodIn_r _ [7, 8, 9, 10, 6, 11, 19, 20, 21, 22, 23, 24, 25, 26, 27, 28, 29, 30, 31, 32] (by decide +kernel) (by decide +kernel)
set_option maxRecDepth 20000 in
theorem gX3_beastsOf_X3_isFable : GoodIn wsX3_beastsOf (wsV RX3 73 RX3 yX3_isFable wsX3_isFable) := goodIn_app (goodIn_of _ (by decide +kernel)) ggX3_beastsOf_X3_isFable
set_option maxRecDepth 20000 in
theorem ggX3_beastsOf_X3_many : GoodIn wsX3_beastsOf wsX3_many := goodIn_r _ [14] (by decide +kernel) (by decide +kernel)
set_option maxRecDepth 20000 in
theorem gX3_beastsOf_X3_many : GoodIn wsX3_beastsOf (va_wsS RX3 79 yX3_many wsX3_many) := goodIn_app (goodIn_of _ (by decide +kernel)) ggX3_beastsOf_X3_many
set_option maxRecDepth 20000 in
theorem ggX3_beastsOf_X3_fail : GoodIn wsX3_beastsOf wsX3_fail := goodIn_r _ [18, 1, 19, 20, 21, 22, 23, 24, 25, 26, 27, 28, 29, 30, 31, 32] (by decide +kernel) (by decide +kernel)
set_option maxRecDepth 20000 in
theorem gX3_beastsOf_X3_fail : GoodIn wsX3_beastsOf (wsV RX3 65 RX3 yX3_fail wsX3_fail) := goodIn_app (goodIn_of _ (by decide +kernel)) ggX3_beastsOf_X3_fail
theorem dX3_beastsOf_0 : decode cX3_beastsOf 0 = .ok (.aload_n 0, 1) := by decide +kernel
theorem dX3_beastsOf_1 : decode cX3_beastsOf 1 = .ok (.iconst 0, 1) := by decide +kernel
theorem dX3_beastsOf_2 : decode cX3_beastsOf 2 = .ok (.putfield 40, 3) := by decide +kernel
theorem dX3_beastsOf_5 : decode cX3_beastsOf 5 = .ok (.aload_n 0, 1) := by decide +kernel
theorem dX3_beastsOf_6 : decode cX3_beastsOf 6 = .ok (.iload_n 1, 1) := by decide +kernel
theorem dX3_beastsOf_7 : decode cX3_beastsOf 7 = .ok (.invokevirtual 73, 3) := by decide +kernel
theorem dX3_beastsOf_10 : decode cX3_beastsOf 10 = .ok (.ifCond .eq 15, 3) := by decide +kernel
theorem dX3_beastsOf_13 : decode cX3_beastsOf 13 = .ok (.aload_n 0, 1) := by decide +kernel
theorem dX3_beastsOf_14 : decode cX3_beastsOf 14 = .ok (.getfield 13, 3) := by decide +kernel
theorem dX3_beastsOf_17 : decode cX3_beastsOf 17 = .ok (.iload_n 1, 1) := by decide +kernel
theorem dX3_beastsOf_18 : decode cX3_beastsOf 18 = .ok (.iaload, 1) := by decide +kernel
theorem dX3_beastsOf_19 : decode cX3_beastsOf 19 = .ok (.invokestatic 79, 3) := by decide +kernel
theorem dX3_beastsOf_22 : decode cX3_beastsOf 22 = .ok (.goto 8, 3) := by decide +kernel
theorem dX3_beastsOf_25 : decode cX3_beastsOf 25 = .ok (.aload_n 0, 1) := by decide +kernel
theorem dX3_beastsOf_26 : decode cX3_beastsOf 26 = .ok (.iconst 1, 1) := by decide +kernel
theorem dX3_beastsOf_27 : decode cX3_beastsOf 27 = .ok (.invokevirtual 65, 3) := by decide +kernel
theorem dX3_beastsOf_30 : decode cX3_beastsOf 30 = .ok (.ireturn, 1) := by decide +kernel
set_option maxRecDepth 20000 in
theorem ggX3_hasBeast_X3_isFable : GoodIn wsX3_hasBeast wsX3_isFable := goodIn_r _ [7, 8, 9, 10, 6, 11, 22, 23, 24, 25, 26, 27, 28, 29, 30, 31, 32, 33, 34, 35] (by decide +kernel) (by decide +kernel)
set_option maxRecDepth 20000 in
theorem gX3_hasBeast_X3_isFable : GoodIn wsX3_hasBeast (wsV RX3 73 RX3 yX3_isFable wsX3_isFable) := goodIn_app (goodIn_of _ (by decide +kernel)) ggX3_hasBeast_X3_isFable
set_option maxRecDepth 20000 in
theorem ggX3_hasBeast_X3_isBeast : GoodIn wsX3_hasBeast wsX3_isBeast := goodIn_r _ [14, 9, 10, 6, 11] (by decide +kernel) (by decide +kernel)
set_option maxRecDepth 20000 in
theorem gX3_hasBeast_X3_isBeast : GoodIn wsX3_hasBeast (va_wsS RX3 59 yX3_isBeast wsX3_isBeast) := goodIn_app (goodIn_of _ (by decide +kernel)) ggX3_hasBeast_X3_isBeast
set_option maxRecDepth 20000 in
theorem ggX3_hasBeast_X3_has : GoodIn wsX3_hasBeast wsX3_has := goodIn_r _ [17] (by decide +kernel) (by decide +kernel)
set_option maxRecDepth 20000 in
theorem gX3_hasBeast_X3_has : GoodIn wsX3_hasBeast (va_wsS RX3 51 yX3_has wsX3_has) := goodIn_app (goodIn_of _ (by decide +kernel)) ggX3_hasBeast_X3_has
set_option maxRecDepth 20000 in
theorem ggX3_hasBeast_X3_failed : GoodIn wsX3_hasBeast wsX3_failed := goodIn_r _ [21, 1, 22, 23, 24, 25, 26, 27, 28, 29, 30, 31, 32, 33, 34, 35] (by decide +kernel) (by decide +kernel)
set_option maxRecDepth 20000 in
theorem gX3_hasBeast_X3_failed : GoodIn wsX3_hasBeast (wsV RX3 82 RX3 yX3_failed wsX3_failed) := goodIn_app (goodIn_of _ (by decide +kernel)) ggX3_hasBeast_X3_failed
theorem dX3_hasBeast_0 : decode cX3_hasBeast 0 = .ok (.aload_n 0, 1) := by decide +kernel
theorem dX3_hasBeast_1 : decode cX3_hasBeast 1 = .ok (.iconst 0, 1) := by decide +kernel
theorem dX3_hasBeast_2 : decode cX3_hasBeast 2 = .ok (.putfield 40, 3) := by decide +kernel
theorem dX3_hasBeast_5 : decode cX3_hasBeast 5 = .ok (.aload_n 0, 1) := by decide +kernel
theorem dX3_hasBeast_6 : decode cX3_hasBeast 6 = .ok (.iload_n 1, 1) := by decide +kernel
theorem dX3_hasBeast_7 : decode cX3_hasBeast 7 = .ok (.invokevirtual 73, 3) := by decide +kernel
theorem dX3_hasBeast_10 : decode cX3_hasBeast 10 = .ok (.ifCond .eq 23, 3) := by decide +kernel
theorem dX3_hasBeast_13 : decode cX3_hasBeast 13 = .ok (.iload_n 2, 1) := by decide +kernel
theorem dX3_hasBeast_14 : decode cX3_hasBeast 14 = .ok (.invokestatic 59, 3) := by decide +kernel
theorem dX3_hasBeast_17 : decode cX3_hasBeast 17 = .ok (.ifCond .eq 16, 3) := by decide +kernel
theorem dX3_hasBeast_20 : decode cX3_hasBeast 20 = .ok (.aload_n 0, 1) := by decide +kernel
theorem dX3_hasBeast_21 : decode cX3_hasBeast 21 = .ok (.getfield 13, 3) := by decide +kernel
theorem dX3_hasBeast_24 : decode cX3_hasBeast 24 = .ok (.iload_n 1, 1) := by decide +kernel
theorem dX3_hasBeast_25 : decode cX3_hasBeast 25 = .ok (.iaload, 1) := by decide +kernel
theorem dX3_hasBeast_26 : decode cX3_hasBeast 26 = .ok (.iload_n 2, 1) := by decide +kernel
theorem dX3_hasBeast_27 : decode cX3_hasBeast 27 = .ok (.invokestatic 51, 3) := by decide +kernel
theorem dX3_hasBeast_30 : decode cX3_hasBeast 30 = .ok (.goto 8, 3) := by decide +kernel
theorem dX3_hasBeast_33 : decode cX3_hasBeast 33 = .ok (.aload_n 0, 1) := by decide +kernel
theorem dX3_hasBeast_34 : decode cX3_hasBeast 34 = .ok (.iconst 1, 1) := by decide +kernel
theorem dX3_hasBeast_35 : decode cX3_hasBeast 35 = .ok (.invokevirtual 82, 3) := by decide +kernel
theorem dX3_hasBeast_38 : decode cX3_hasBeast 38 = .ok (.ireturn, 1) := by decide +kernel
set_option maxRecDepth 20000 in
theorem ggX3_homeOf_X3_isFable : GoodIn wsX3_homeOf wsX3_isFable := goodIn_r _ [7, 8, 9, 10, 6, 11, 16, 17, 18, 19, 20, 21, 22, 23, 24, 25, 26, 27, 28, 29] (by decide +kernel) (by decide +kernel)
set_option maxRecDepth 20000 in
theorem gX3_homeOf_X3_isFable : GoodIn wsX3_homeOf (wsV RX3 73 RX3 yX3_isFable wsX3_isFable) := goodIn_app (goodIn_of _ (by decide +kernel)) ggX3_homeOf_X3_isFable
set_option maxRecDepth 20000 in
theorem ggX3_homeOf_X3_fail : GoodIn wsX3_homeOf wsX3_fail := goodIn_r _ [15, 1, 16, 17, 18, 19, 20, 21, 22, 23, 24, 25, 26, 27, 28, 29] (by decide +kernel) (by decide +kernel)
set_option maxRecDepth 20000 in
theorem gX3_homeOf_X3_fail : GoodIn wsX3_homeOf (wsV RX3 65 RX3 yX3_fail wsX3_fail) := goodIn_app (goodIn_of _ (by decide +kernel)) ggX3_homeOf_X3_fail
theorem dX3_homeOf_0 : decode cX3_homeOf 0 = .ok (.aload_n 0, 1) := by decide +kernel
theorem dX3_homeOf_1 : decode cX3_homeOf 1 = .ok (.iconst 0, 1) := by decide +kernel
theorem dX3_homeOf_2 : decode cX3_homeOf 2 = .ok (.putfield 40, 3) := by decide +kernel
theorem dX3_homeOf_5 : decode cX3_homeOf 5 = .ok (.aload_n 0, 1) := by decide +kernel
theorem dX3_homeOf_6 : decode cX3_homeOf 6 = .ok (.iload_n 1, 1) := by decide +kernel
theorem dX3_homeOf_7 : decode cX3_homeOf 7 = .ok (.invokevirtual 73, 3) := by decide +kernel
theorem dX3_homeOf_10 : decode cX3_homeOf 10 = .ok (.ifCond .eq 12, 3) := by decide +kernel
theorem dX3_homeOf_13 : decode cX3_homeOf 13 = .ok (.aload_n 0, 1) := by decide +kernel
theorem dX3_homeOf_14 : decode cX3_homeOf 14 = .ok (.getfield 16, 3) := by decide +kernel
theorem dX3_homeOf_17 : decode cX3_homeOf 17 = .ok (.iload_n 1, 1) := by decide +kernel
theorem dX3_homeOf_18 : decode cX3_homeOf 18 = .ok (.iaload, 1) := by decide +kernel
theorem dX3_homeOf_19 : decode cX3_homeOf 19 = .ok (.goto 8, 3) := by decide +kernel
theorem dX3_homeOf_22 : decode cX3_homeOf 22 = .ok (.aload_n 0, 1) := by decide +kernel
theorem dX3_homeOf_23 : decode cX3_homeOf 23 = .ok (.iconst 1, 1) := by decide +kernel
theorem dX3_homeOf_24 : decode cX3_homeOf 24 = .ok (.invokevirtual 65, 3) := by decide +kernel
theorem dX3_homeOf_27 : decode cX3_homeOf 27 = .ok (.ireturn, 1) := by decide +kernel
set_option maxRecDepth 20000 in
theorem ggX3_parentOf_X3_isFable : GoodIn wsX3_parentOf wsX3_isFable := goodIn_r _ [7, 8, 9, 10, 6, 11, 16, 17, 18, 19, 20, 21, 22, 23, 24, 25, 26, 27, 28, 29] (by decide +kernel) (by decide +kernel)
set_option maxRecDepth 20000 in
theorem gX3_parentOf_X3_isFable : GoodIn wsX3_parentOf (wsV RX3 73 RX3 yX3_isFable wsX3_isFable) := goodIn_app (goodIn_of _ (by decide +kernel)) ggX3_parentOf_X3_isFable
set_option maxRecDepth 20000 in
theorem ggX3_parentOf_X3_fail : GoodIn wsX3_parentOf wsX3_fail := goodIn_r _ [15, 1, 16, 17, 18, 19, 20, 21, 22, 23, 24, 25, 26, 27, 28, 29] (by decide +kernel) (by decide +kernel)
set_option maxRecDepth 20000 in
theorem gX3_parentOf_X3_fail : GoodIn wsX3_parentOf (wsV RX3 65 RX3 yX3_fail wsX3_fail) := goodIn_app (goodIn_of _ (by decide +kernel)) ggX3_parentOf_X3_fail
theorem dX3_parentOf_0 : decode cX3_parentOf 0 = .ok (.aload_n 0, 1) := by decide +kernel
theorem dX3_parentOf_1 : decode cX3_parentOf 1 = .ok (.iconst 0, 1) := by decide +kernel
theorem dX3_parentOf_2 : decode cX3_parentOf 2 = .ok (.putfield 40, 3) := by decide +kernel
theorem dX3_parentOf_5 : decode cX3_parentOf 5 = .ok (.aload_n 0, 1) := by decide +kernel
theorem dX3_parentOf_6 : decode cX3_parentOf 6 = .ok (.iload_n 1, 1) := by decide +kernel
theorem dX3_parentOf_7 : decode cX3_parentOf 7 = .ok (.invokevirtual 73, 3) := by decide +kernel
theorem dX3_parentOf_10 : decode cX3_parentOf 10 = .ok (.ifCond .eq 12, 3) := by decide +kernel
theorem dX3_parentOf_13 : decode cX3_parentOf 13 = .ok (.aload_n 0, 1) := by decide +kernel
theorem dX3_parentOf_14 : decode cX3_parentOf 14 = .ok (.getfield 19, 3) := by decide +kernel
theorem dX3_parentOf_17 : decode cX3_parentOf 17 = .ok (.iload_n 1, 1) := by decide +kernel
theorem dX3_parentOf_18 : decode cX3_parentOf 18 = .ok (.iaload, 1) := by decide +kernel
theorem dX3_parentOf_19 : decode cX3_parentOf 19 = .ok (.goto 8, 3) := by decide +kernel
theorem dX3_parentOf_22 : decode cX3_parentOf 22 = .ok (.aload_n 0, 1) := by decide +kernel
theorem dX3_parentOf_23 : decode cX3_parentOf 23 = .ok (.iconst 1, 1) := by decide +kernel
theorem dX3_parentOf_24 : decode cX3_parentOf 24 = .ok (.invokevirtual 65, 3) := by decide +kernel
theorem dX3_parentOf_27 : decode cX3_parentOf 27 = .ok (.ireturn, 1) := by decide +kernel
set_option maxRecDepth 20000 in
theorem ggX3_variantsOf_X3_isFable : GoodIn wsX3_variantsOf wsX3_isFable := goodIn_r _ [6, 7, 8, 9, 5, 10, 20, 21, 22, 23, 24, 25, 26, 27, 28, 29, 30, 31, 32, 33] (by decide +kernel) (by decide +kernel)
set_option maxRecDepth 20000 in
theorem gX3_variantsOf_X3_isFable : GoodIn wsX3_variantsOf (wsV RX3 73 RX3 yX3_isFable wsX3_isFable) := goodIn_app (goodIn_of _ (by decide +kernel)) ggX3_variantsOf_X3_isFable
set_option maxRecDepth 20000 in
theorem ggX3_variantsOf_X3_children : GoodIn wsX3_variantsOf wsX3_children := goodIn_r _ [14, 7, 15, 20, 21, 22, 23, 24, 25, 26, 27, 28, 29, 30, 31, 32, 33] (by decide +kernel) (by decide +kernel)
set_option maxRecDepth 20000 in
theorem gX3_variantsOf_X3_children : GoodIn wsX3_variantsOf (wsV RX3 76 RX3 yX3_children wsX3_children) := goodIn_app (goodIn_of _ (by decide +kernel)) ggX3_variantsOf_X3_children
set_option maxRecDepth 20000 in
theorem ggX3_variantsOf_X3_fail : GoodIn wsX3_variantsOf wsX3_fail := goodIn_r _ [19, 1, 20, 21, 22, 23, 24, 25, 26, 27, 28, 29, 30, 31, 32, 33] (by decide +kernel) (by decide +kernel)
set_option maxRecDepth 20000 in
theorem gX3_variantsOf_X3_fail : GoodIn wsX3_variantsOf (wsV RX3 65 RX3 yX3_fail wsX3_fail) := goodIn_app (goodIn_of _ (by decide +kernel)) ggX3_variantsOf_X3_fail
theorem dX3_variantsOf_0 : decode cX3_variantsOf 0 = .ok (.aload_n 0, 1) := by decide +kernel
theorem dX3_variantsOf_1 : decode cX3_variantsOf 1 = .ok (.iconst 0, 1) := by decide +kernel
theorem dX3_variantsOf_2 : decode cX3_variantsOf 2 = .ok (.putfield 40, 3) := by decide +kernel
theorem dX3_variantsOf_5 : decode cX3_variantsOf 5 = .ok (.aload_n 0, 1) := by decide +kernel
theorem dX3_variantsOf_6 : decode cX3_variantsOf 6 = .ok (.iload_n 1, 1) := by decide +kernel
theorem dX3_variantsOf_7 : decode cX3_variantsOf 7 = .ok (.invokevirtual 73, 3) := by decide +kernel
theorem dX3_variantsOf_10 : decode cX3_variantsOf 10 = .ok (.ifCond .eq 11, 3) := by decide +kernel
theorem dX3_variantsOf_13 : decode cX3_variantsOf 13 = .ok (.aload_n 0, 1) := by decide +kernel
theorem dX3_variantsOf_14 : decode cX3_variantsOf 14 = .ok (.iload_n 1, 1) := by decide +kernel
theorem dX3_variantsOf_15 : decode cX3_variantsOf 15 = .ok (.invokevirtual 76, 3) := by decide +kernel
theorem dX3_variantsOf_18 : decode cX3_variantsOf 18 = .ok (.goto 8, 3) := by decide +kernel
theorem dX3_variantsOf_21 : decode cX3_variantsOf 21 = .ok (.aload_n 0, 1) := by decide +kernel
theorem dX3_variantsOf_22 : decode cX3_variantsOf 22 = .ok (.iconst 1, 1) := by decide +kernel
theorem dX3_variantsOf_23 : decode cX3_variantsOf 23 = .ok (.invokevirtual 65, 3) := by decide +kernel
theorem dX3_variantsOf_26 : decode cX3_variantsOf 26 = .ok (.ireturn, 1) := by decide +kernel
set_option maxRecDepth 20000 in
theorem ggX3_valleysOf_X3_isFable : GoodIn wsX3_valleysOf wsX3_isFable := goodIn_r _ [6, 7, 8, 9, 5, 10, 23, 24, 25, 26, 27, 28, 29, 30, 31, 32, 33, 34, 35, 36] (by decide +kernel) (by decide +kernel)
set_option maxRecDepth 20000 in
theorem gX3_valleysOf_X3_isFable : GoodIn wsX3_valleysOf (wsV RX3 73 RX3 yX3_isFable wsX3_isFable) := goodIn_app (goodIn_of _ (by decide +kernel)) ggX3_valleysOf_X3_isFable
set_option maxRecDepth 20000 in
theorem ggX3_valleysOf_X3_placesOf : GoodIn wsX3_valleysOf wsX3_placesOf := goodIn_r _ [14, 15, 16, 17, 5, 18, 23, 24, 25, 26, 27, 28, 29, 30, 31, 32, 33, 34, 35, 36] (by decide +kernel) (by decide +kernel)
set_option maxRecDepth 20000 in
theorem gX3_valleysOf_X3_placesOf : GoodIn wsX3_valleysOf (wsV RX3 91 RX3 yX3_placesOf wsX3_placesOf) := goodIn_app (goodIn_of _ (by decide +kernel)) ggX3_valleysOf_X3_placesOf
set_option maxRecDepth 20000 in
theorem ggX3_valleysOf_X3_fail : GoodIn wsX3_valleysOf wsX3_fail := goodIn_r _ [22, 1, 23, 24, 25, 26, 27, 28, 29, 30, 31, 32, 33, 34, 35, 36] (by decide +kernel) (by decide +kernel)
set_option maxRecDepth 20000 in
theorem gX3_valleysOf_X3_fail : GoodIn wsX3_valleysOf (wsV RX3 65 RX3 yX3_fail wsX3_fail) := goodIn_app (goodIn_of _ (by decide +kernel)) ggX3_valleysOf_X3_fail
theorem dX3_valleysOf_0 : decode cX3_valleysOf 0 = .ok (.aload_n 0, 1) := by decide +kernel
theorem dX3_valleysOf_1 : decode cX3_valleysOf 1 = .ok (.iconst 0, 1) := by decide +kernel
theorem dX3_valleysOf_2 : decode cX3_valleysOf 2 = .ok (.putfield 40, 3) := by decide +kernel
theorem dX3_valleysOf_5 : decode cX3_valleysOf 5 = .ok (.aload_n 0, 1) := by decide +kernel
theorem dX3_valleysOf_6 : decode cX3_valleysOf 6 = .ok (.iload_n 1, 1) := by decide +kernel
theorem dX3_valleysOf_7 : decode cX3_valleysOf 7 = .ok (.invokevirtual 73, 3) := by decide +kernel
theorem dX3_valleysOf_10 : decode cX3_valleysOf 10 = .ok (.ifCond .eq 11, 3) := by decide +kernel
theorem dX3_valleysOf_13 : decode cX3_valleysOf 13 = .ok (.aload_n 0, 1) := by decide +kernel
theorem dX3_valleysOf_14 : decode cX3_valleysOf 14 = .ok (.iload_n 1, 1) := by decide +kernel
theorem dX3_valleysOf_15 : decode cX3_valleysOf 15 = .ok (.invokevirtual 91, 3) := by decide +kernel
theorem dX3_valleysOf_18 : decode cX3_valleysOf 18 = .ok (.goto 8, 3) := by decide +kernel
theorem dX3_valleysOf_21 : decode cX3_valleysOf 21 = .ok (.aload_n 0, 1) := by decide +kernel
theorem dX3_valleysOf_22 : decode cX3_valleysOf 22 = .ok (.iconst 1, 1) := by decide +kernel
theorem dX3_valleysOf_23 : decode cX3_valleysOf 23 = .ok (.invokevirtual 65, 3) := by decide +kernel
theorem dX3_valleysOf_26 : decode cX3_valleysOf 26 = .ok (.ireturn, 1) := by decide +kernel
theorem dX3_ancestors_0 : decode cX3_ancestors 0 = .ok (.iconst 0, 1) := by decide +kernel
theorem dX3_ancestors_1 : decode cX3_ancestors 1 = .ok (.istore_n 2, 1) := by decide +kernel
theorem dX3_ancestors_2 : decode cX3_ancestors 2 = .ok (.iload_n 1, 1) := by decide +kernel
theorem dX3_ancestors_3 : decode cX3_ancestors 3 = .ok (.istore_n 3, 1) := by decide +kernel
theorem dX3_ancestors_4 : decode cX3_ancestors 4 = .ok (.iload_n 3, 1) := by decide +kernel
theorem dX3_ancestors_5 : decode cX3_ancestors 5 = .ok (.iconst (-1), 1) := by decide +kernel
theorem dX3_ancestors_6 : decode cX3_ancestors 6 = .ok (.if_icmp .eq 19, 3) := by decide +kernel
theorem dX3_ancestors_9 : decode cX3_ancestors 9 = .ok (.iload_n 2, 1) := by decide +kernel
theorem dX3_ancestors_10 : decode cX3_ancestors 10 = .ok (.iconst 1, 1) := by decide +kernel
theorem dX3_ancestors_11 : decode cX3_ancestors 11 = .ok (.iload_n 3, 1) := by decide +kernel
theorem dX3_ancestors_12 : decode cX3_ancestors 12 = .ok (.ishl, 1) := by decide +kernel
theorem dX3_ancestors_13 : decode cX3_ancestors 13 = .ok (.ior, 1) := by decide +kernel
theorem dX3_ancestors_14 : decode cX3_ancestors 14 = .ok (.istore_n 2, 1) := by decide +kernel
theorem dX3_ancestors_15 : decode cX3_ancestors 15 = .ok (.aload_n 0, 1) := by decide +kernel
theorem dX3_ancestors_16 : decode cX3_ancestors 16 = .ok (.getfield 19, 3) := by decide +kernel
theorem dX3_ancestors_19 : decode cX3_ancestors 19 = .ok (.iload_n 3, 1) := by decide +kernel
theorem dX3_ancestors_20 : decode cX3_ancestors 20 = .ok (.iaload, 1) := by decide +kernel
theorem dX3_ancestors_21 : decode cX3_ancestors 21 = .ok (.istore_n 3, 1) := by decide +kernel
theorem dX3_ancestors_22 : decode cX3_ancestors 22 = .ok (.goto (-18), 3) := by decide +kernel
theorem dX3_ancestors_25 : decode cX3_ancestors 25 = .ok (.iload_n 2, 1) := by decide +kernel
theorem dX3_ancestors_26 : decode cX3_ancestors 26 = .ok (.ireturn, 1) := by decide +kernel
set_option maxRecDepth 20000 in
theorem ggX3_nearest_X3_ancestors : GoodIn wsX3_nearest wsX3_ancestors := goodIn_r _ [6, 7, 11, 12, 13, 14, 15, 16, 17, 18, 19, 20, 21, 22, 23, 24] (by decide +kernel) (by decide +kernel)
set_option maxRecDepth 20000 in
theorem gX3_nearest_X3_ancestors : GoodIn wsX3_nearest (wsV RX3 117 RX3 yX3_ancestors wsX3_ancestors) := goodIn_app (goodIn_of _ (by decide +kernel)) ggX3_nearest_X3_ancestors
set_option maxRecDepth 20000 in
theorem ggX3_nearest_X3_has : GoodIn wsX3_nearest wsX3_has := goodIn_r _ [10] (by decide +kernel) (by decide +kernel)
set_option maxRecDepth 20000 in
theorem gX3_nearest_X3_has : GoodIn wsX3_nearest (va_wsS RX3 51 yX3_has wsX3_has) := goodIn_app (goodIn_of _ (by decide +kernel)) ggX3_nearest_X3_has
theorem dX3_nearest_0 : decode cX3_nearest 0 = .ok (.aload_n 0, 1) := by decide +kernel
theorem dX3_nearest_1 : decode cX3_nearest 1 = .ok (.iload_n 1, 1) := by decide +kernel
theorem dX3_nearest_2 : decode cX3_nearest 2 = .ok (.invokevirtual 117, 3) := by decide +kernel
theorem dX3_nearest_5 : decode cX3_nearest 5 = .ok (.aload_n 0, 1) := by decide +kernel
theorem dX3_nearest_6 : decode cX3_nearest 6 = .ok (.iload_n 2, 1) := by decide +kernel
theorem dX3_nearest_7 : decode cX3_nearest 7 = .ok (.invokevirtual 117, 3) := by decide +kernel
theorem dX3_nearest_10 : decode cX3_nearest 10 = .ok (.iand, 1) := by decide +kernel
theorem dX3_nearest_11 : decode cX3_nearest 11 = .ok (.istore_n 3, 1) := by decide +kernel
theorem dX3_nearest_12 : decode cX3_nearest 12 = .ok (.aload_n 0, 1) := by decide +kernel
theorem dX3_nearest_13 : decode cX3_nearest 13 = .ok (.getfield 44, 3) := by decide +kernel
theorem dX3_nearest_16 : decode cX3_nearest 16 = .ok (.iconst 1, 1) := by decide +kernel
theorem dX3_nearest_17 : decode cX3_nearest 17 = .ok (.isub, 1) := by decide +kernel
theorem dX3_nearest_18 : decode cX3_nearest 18 = .ok (.istore 4, 2) := by decide +kernel
theorem dX3_nearest_20 : decode cX3_nearest 20 = .ok (.iload 4, 2) := by decide +kernel
theorem dX3_nearest_22 : decode cX3_nearest 22 = .ok (.ifCond .lt 18, 3) := by decide +kernel
theorem dX3_nearest_25 : decode cX3_nearest 25 = .ok (.iload_n 3, 1) := by decide +kernel
theorem dX3_nearest_26 : decode cX3_nearest 26 = .ok (.iload 4, 2) := by decide +kernel
theorem dX3_nearest_28 : decode cX3_nearest 28 = .ok (.invokestatic 51, 3) := by decide +kernel
theorem dX3_nearest_31 : decode cX3_nearest 31 = .ok (.ifCond .ne 9, 3) := by decide +kernel
theorem dX3_nearest_34 : decode cX3_nearest 34 = .ok (.iinc 4 (-1), 3) := by decide +kernel
theorem dX3_nearest_37 : decode cX3_nearest 37 = .ok (.goto (-17), 3) := by decide +kernel
theorem dX3_nearest_40 : decode cX3_nearest 40 = .ok (.iload 4, 2) := by decide +kernel
theorem dX3_nearest_42 : decode cX3_nearest 42 = .ok (.ireturn, 1) := by decide +kernel
set_option maxRecDepth 20000 in
theorem ggX3_nearestAncestor_X3_isFable : GoodIn wsX3_nearestAncestor wsX3_isFable := goodIn_r _ [6, 7, 8, 9, 5, 10, 27, 28, 29, 30, 31, 32, 33, 34, 35, 36, 37, 38, 39, 40] (by decide +kernel) (by decide +kernel)
set_option maxRecDepth 20000 in
theorem gX3_nearestAncestor_X3_isFable : GoodIn wsX3_nearestAncestor (wsV RX3 73 RX3 yX3_isFable wsX3_isFable) := goodIn_app (goodIn_of _ (by decide +kernel)) ggX3_nearestAncestor_X3_isFable
set_option maxRecDepth 20000 in
theorem ggX3_nearestAncestor_X3_nearest : GoodIn wsX3_nearestAncestor wsX3_nearest := goodIn_r _ [14, 7, 15, 16, 17, 5, 18, 19, 20, 21, 22, 27, 28, 29, 30, 31, 32, 33, 34, 35, 36, 37, 38, 39, 40] (by decide +kernel) (by decide +kernel)
set_option maxRecDepth 20000 in
theorem gX3_nearestAncestor_X3_nearest : GoodIn wsX3_nearestAncestor (wsV RX3 120 RX3 yX3_nearest wsX3_nearest) := goodIn_app (goodIn_of _ (by decide +kernel)) ggX3_nearestAncestor_X3_nearest
set_option maxRecDepth 20000 in
theorem ggX3_nearestAncestor_X3_fail : GoodIn wsX3_nearestAncestor wsX3_fail := goodIn_r _ [26, 1, 27, 28, 29, 30, 31, 32, 33, 34, 35, 36, 37, 38, 39, 40] (by decide +kernel) (by decide +kernel)
set_option maxRecDepth 20000 in
theorem gX3_nearestAncestor_X3_fail : GoodIn wsX3_nearestAncestor (wsV RX3 65 RX3 yX3_fail wsX3_fail) := goodIn_app (goodIn_of _ (by decide +kernel)) ggX3_nearestAncestor_X3_fail
theorem dX3_nearestAncestor_0 : decode cX3_nearestAncestor 0 = .ok (.aload_n 0, 1) := by decide +kernel
theorem dX3_nearestAncestor_1 : decode cX3_nearestAncestor 1 = .ok (.iconst 0, 1) := by decide +kernel
theorem dX3_nearestAncestor_2 : decode cX3_nearestAncestor 2 = .ok (.putfield 40, 3) := by decide +kernel
theorem dX3_nearestAncestor_5 : decode cX3_nearestAncestor 5 = .ok (.aload_n 0, 1) := by decide +kernel
theorem dX3_nearestAncestor_6 : decode cX3_nearestAncestor 6 = .ok (.iload_n 1, 1) := by decide +kernel
theorem dX3_nearestAncestor_7 : decode cX3_nearestAncestor 7 = .ok (.invokevirtual 73, 3) := by decide +kernel
theorem dX3_nearestAncestor_10 : decode cX3_nearestAncestor 10 = .ok (.ifCond .eq 20, 3) := by decide +kernel
theorem dX3_nearestAncestor_13 : decode cX3_nearestAncestor 13 = .ok (.aload_n 0, 1) := by decide +kernel
theorem dX3_nearestAncestor_14 : decode cX3_nearestAncestor 14 = .ok (.iload_n 2, 1) := by decide +kernel
theorem dX3_nearestAncestor_15 : decode cX3_nearestAncestor 15 = .ok (.invokevirtual 73, 3) := by decide +kernel
theorem dX3_nearestAncestor_18 : decode cX3_nearestAncestor 18 = .ok (.ifCond .eq 12, 3) := by decide +kernel
theorem dX3_nearestAncestor_21 : decode cX3_nearestAncestor 21 = .ok (.aload_n 0, 1) := by decide +kernel
theorem dX3_nearestAncestor_22 : decode cX3_nearestAncestor 22 = .ok (.iload_n 1, 1) := by decide +kernel
theorem dX3_nearestAncestor_23 : decode cX3_nearestAncestor 23 = .ok (.iload_n 2, 1) := by decide +kernel
theorem dX3_nearestAncestor_24 : decode cX3_nearestAncestor 24 = .ok (.invokevirtual 120, 3) := by decide +kernel
theorem dX3_nearestAncestor_27 : decode cX3_nearestAncestor 27 = .ok (.goto 8, 3) := by decide +kernel
theorem dX3_nearestAncestor_30 : decode cX3_nearestAncestor 30 = .ok (.aload_n 0, 1) := by decide +kernel
theorem dX3_nearestAncestor_31 : decode cX3_nearestAncestor 31 = .ok (.iconst 1, 1) := by decide +kernel
theorem dX3_nearestAncestor_32 : decode cX3_nearestAncestor 32 = .ok (.invokevirtual 65, 3) := by decide +kernel
theorem dX3_nearestAncestor_35 : decode cX3_nearestAncestor 35 = .ok (.ireturn, 1) := by decide +kernel
set_option maxRecDepth 20000 in
theorem ggX3_kinship_X3_isFable : GoodIn wsX3_kinship wsX3_isFable := goodIn_r _ [6, 7, 8, 9, 5, 10, 30, 31, 32, 33, 34, 35, 36, 37, 38, 39, 40, 41, 42, 43] (by decide +kernel) (by decide +kernel)
set_option maxRecDepth 20000 in
theorem gX3_kinship_X3_isFable : GoodIn wsX3_kinship (wsV RX3 73 RX3 yX3_isFable wsX3_isFable) := goodIn_app (goodIn_of _ (by decide +kernel)) ggX3_kinship_X3_isFable
set_option maxRecDepth 20000 in
theorem ggX3_kinship_X3_fail : GoodIn wsX3_kinship wsX3_fail := goodIn_r _ [14, 1, 30, 31, 32, 33, 34, 35, 36, 37, 38, 39, 40, 41, 42, 43] (by decide +kernel) (by decide +kernel)
set_option maxRecDepth 20000 in
theorem gX3_kinship_X3_fail : GoodIn wsX3_kinship (wsV RX3 65 RX3 yX3_fail wsX3_fail) := goodIn_app (goodIn_of _ (by decide +kernel)) ggX3_kinship_X3_fail
set_option maxRecDepth 20000 in
theorem ggX3_kinship_X3_nearest : GoodIn wsX3_kinship wsX3_nearest := goodIn_r _ [18, 7, 19, 20, 21, 5, 22, 23, 24, 25, 26, 30, 31, 32, 33, 34, 35, 36, 37, 38, 39, 40, 41, 42, 43] (by decide +kernel) (by decide +kernel)
set_option maxRecDepth 20000 in
theorem gX3_kinship_X3_nearest : GoodIn wsX3_kinship (wsV RX3 120 RX3 yX3_nearest wsX3_nearest) := goodIn_app (goodIn_of _ (by decide +kernel)) ggX3_kinship_X3_nearest
set_option maxRecDepth 20000 in
theorem ggX3_kinship_X3_ancestors : GoodIn wsX3_kinship wsX3_ancestors := goodIn_r _ [22, 23, 30, 31, 32, 33, 34, 35, 36, 37, 38, 39, 40, 41, 42, 43] (by decide +kernel) (by decide +kernel)
set_option maxRecDepth 20000 in
theorem gX3_kinship_X3_ancestors : GoodIn wsX3_kinship (wsV RX3 117 RX3 yX3_ancestors wsX3_ancestors) := goodIn_app (goodIn_of _ (by decide +kernel)) ggX3_kinship_X3_ancestors
set_option maxRecDepth 20000 in
theorem ggX3_kinship_X3_many : GoodIn wsX3_kinship wsX3_many := goodIn_r _ [29] (by decide +kernel) (by decide +kernel)
set_option maxRecDepth 20000 in
theorem gX3_kinship_X3_many : GoodIn wsX3_kinship (va_wsS RX3 79 yX3_many wsX3_many) := goodIn_app (goodIn_of _ (by decide +kernel)) ggX3_kinship_X3_many
theorem dX3_kinship_0 : decode cX3_kinship 0 = .ok (.aload_n 0, 1) := by decide +kernel
theorem dX3_kinship_1 : decode cX3_kinship 1 = .ok (.iconst 0, 1) := by decide +kernel
theorem dX3_kinship_2 : decode cX3_kinship 2 = .ok (.putfield 40, 3) := by decide +kernel
theorem dX3_kinship_5 : decode cX3_kinship 5 = .ok (.aload_n 0, 1) := by decide +kernel
theorem dX3_kinship_6 : decode cX3_kinship 6 = .ok (.iload_n 1, 1) := by decide +kernel
theorem dX3_kinship_7 : decode cX3_kinship 7 = .ok (.invokevirtual 73, 3) := by decide +kernel
theorem dX3_kinship_10 : decode cX3_kinship 10 = .ok (.ifCond .eq 11, 3) := by decide +kernel
theorem dX3_kinship_13 : decode cX3_kinship 13 = .ok (.aload_n 0, 1) := by decide +kernel
theorem dX3_kinship_14 : decode cX3_kinship 14 = .ok (.iload_n 2, 1) := by decide +kernel
theorem dX3_kinship_15 : decode cX3_kinship 15 = .ok (.invokevirtual 73, 3) := by decide +kernel
theorem dX3_kinship_18 : decode cX3_kinship 18 = .ok (.ifCond .ne 9, 3) := by decide +kernel
theorem dX3_kinship_21 : decode cX3_kinship 21 = .ok (.aload_n 0, 1) := by decide +kernel
theorem dX3_kinship_22 : decode cX3_kinship 22 = .ok (.iconst 1, 1) := by decide +kernel
theorem dX3_kinship_23 : decode cX3_kinship 23 = .ok (.invokevirtual 65, 3) := by decide +kernel
theorem dX3_kinship_26 : decode cX3_kinship 26 = .ok (.ireturn, 1) := by decide +kernel
theorem dX3_kinship_27 : decode cX3_kinship 27 = .ok (.aload_n 0, 1) := by decide +kernel
theorem dX3_kinship_28 : decode cX3_kinship 28 = .ok (.iload_n 1, 1) := by decide +kernel
theorem dX3_kinship_29 : decode cX3_kinship 29 = .ok (.iload_n 2, 1) := by decide +kernel
theorem dX3_kinship_30 : decode cX3_kinship 30 = .ok (.invokevirtual 120, 3) := by decide +kernel
theorem dX3_kinship_33 : decode cX3_kinship 33 = .ok (.istore_n 3, 1) := by decide +kernel
theorem dX3_kinship_34 : decode cX3_kinship 34 = .ok (.iload_n 3, 1) := by decide +kernel
theorem dX3_kinship_35 : decode cX3_kinship 35 = .ok (.iconst (-1), 1) := by decide +kernel
theorem dX3_kinship_36 : decode cX3_kinship 36 = .ok (.if_icmp .ne 7, 3) := by decide +kernel
theorem dX3_kinship_39 : decode cX3_kinship 39 = .ok (.iconst (-1), 1) := by decide +kernel
theorem dX3_kinship_40 : decode cX3_kinship 40 = .ok (.goto 17, 3) := by decide +kernel
theorem dX3_kinship_43 : decode cX3_kinship 43 = .ok (.aload_n 0, 1) := by decide +kernel
theorem dX3_kinship_44 : decode cX3_kinship 44 = .ok (.iload_n 1, 1) := by decide +kernel
theorem dX3_kinship_45 : decode cX3_kinship 45 = .ok (.invokevirtual 117, 3) := by decide +kernel
theorem dX3_kinship_48 : decode cX3_kinship 48 = .ok (.aload_n 0, 1) := by decide +kernel
theorem dX3_kinship_49 : decode cX3_kinship 49 = .ok (.iload_n 2, 1) := by decide +kernel
theorem dX3_kinship_50 : decode cX3_kinship 50 = .ok (.invokevirtual 117, 3) := by decide +kernel
theorem dX3_kinship_53 : decode cX3_kinship 53 = .ok (.ixor, 1) := by decide +kernel
theorem dX3_kinship_54 : decode cX3_kinship 54 = .ok (.invokestatic 79, 3) := by decide +kernel
theorem dX3_kinship_57 : decode cX3_kinship 57 = .ok (.ireturn, 1) := by decide +kernel
set_option maxRecDepth 20000 in
theorem ggX3_sharedBeasts_X3_isFable : GoodIn wsX3_sharedBeasts wsX3_isFable := goodIn_r _ [7, 8, 9, 10, 6, 11, 19, 20, 21, 22, 23, 24, 25, 26, 27, 28, 29, 30, 31, 32] (by decide +kernel) (by decide +kernel)
set_option maxRecDepth 20000 in
theorem gX3_sharedBeasts_X3_isFable : GoodIn wsX3_sharedBeasts (wsV RX3 73 RX3 yX3_isFable wsX3_isFable) := goodIn_app (goodIn_of _ (by decide +kernel)) ggX3_sharedBeasts_X3_isFable
set_option maxRecDepth 20000 in
theorem ggX3_sharedBeasts_X3_many : GoodIn wsX3_sharedBeasts wsX3_many := goodIn_r _ [14] (by decide +kernel) (by decide +kernel)
set_option maxRecDepth 20000 in
theorem gX3_sharedBeasts_X3_many : GoodIn wsX3_sharedBeasts (va_wsS RX3 79 yX3_many wsX3_many) := goodIn_app (goodIn_of _ (by decide +kernel)) ggX3_sharedBeasts_X3_many
set_option maxRecDepth 20000 in
theorem ggX3_sharedBeasts_X3_fail : GoodIn wsX3_sharedBeasts wsX3_fail := goodIn_r _ [18, 1, 19, 20, 21, 22, 23, 24, 25, 26, 27, 28, 29, 30, 31, 32] (by decide +kernel) (by decide +kernel)
set_option maxRecDepth 20000 in
theorem gX3_sharedBeasts_X3_fail : GoodIn wsX3_sharedBeasts (wsV RX3 65 RX3 yX3_fail wsX3_fail) := goodIn_app (goodIn_of _ (by decide +kernel)) ggX3_sharedBeasts_X3_fail
theorem dX3_sharedBeasts_0 : decode cX3_sharedBeasts 0 = .ok (.aload_n 0, 1) := by decide +kernel
theorem dX3_sharedBeasts_1 : decode cX3_sharedBeasts 1 = .ok (.iconst 0, 1) := by decide +kernel
theorem dX3_sharedBeasts_2 : decode cX3_sharedBeasts 2 = .ok (.putfield 40, 3) := by decide +kernel
theorem dX3_sharedBeasts_5 : decode cX3_sharedBeasts 5 = .ok (.aload_n 0, 1) := by decide +kernel
theorem dX3_sharedBeasts_6 : decode cX3_sharedBeasts 6 = .ok (.iload_n 1, 1) := by decide +kernel
theorem dX3_sharedBeasts_7 : decode cX3_sharedBeasts 7 = .ok (.invokevirtual 73, 3) := by decide +kernel
theorem dX3_sharedBeasts_10 : decode cX3_sharedBeasts 10 = .ok (.ifCond .eq 30, 3) := by decide +kernel
theorem dX3_sharedBeasts_13 : decode cX3_sharedBeasts 13 = .ok (.aload_n 0, 1) := by decide +kernel
theorem dX3_sharedBeasts_14 : decode cX3_sharedBeasts 14 = .ok (.iload_n 2, 1) := by decide +kernel
theorem dX3_sharedBeasts_15 : decode cX3_sharedBeasts 15 = .ok (.invokevirtual 73, 3) := by decide +kernel
theorem dX3_sharedBeasts_18 : decode cX3_sharedBeasts 18 = .ok (.ifCond .eq 22, 3) := by decide +kernel
theorem dX3_sharedBeasts_21 : decode cX3_sharedBeasts 21 = .ok (.aload_n 0, 1) := by decide +kernel
theorem dX3_sharedBeasts_22 : decode cX3_sharedBeasts 22 = .ok (.getfield 13, 3) := by decide +kernel
theorem dX3_sharedBeasts_25 : decode cX3_sharedBeasts 25 = .ok (.iload_n 1, 1) := by decide +kernel
theorem dX3_sharedBeasts_26 : decode cX3_sharedBeasts 26 = .ok (.iaload, 1) := by decide +kernel
theorem dX3_sharedBeasts_27 : decode cX3_sharedBeasts 27 = .ok (.aload_n 0, 1) := by decide +kernel
theorem dX3_sharedBeasts_28 : decode cX3_sharedBeasts 28 = .ok (.getfield 13, 3) := by decide +kernel
theorem dX3_sharedBeasts_31 : decode cX3_sharedBeasts 31 = .ok (.iload_n 2, 1) := by decide +kernel
theorem dX3_sharedBeasts_32 : decode cX3_sharedBeasts 32 = .ok (.iaload, 1) := by decide +kernel
theorem dX3_sharedBeasts_33 : decode cX3_sharedBeasts 33 = .ok (.iand, 1) := by decide +kernel
theorem dX3_sharedBeasts_34 : decode cX3_sharedBeasts 34 = .ok (.invokestatic 79, 3) := by decide +kernel
theorem dX3_sharedBeasts_37 : decode cX3_sharedBeasts 37 = .ok (.goto 8, 3) := by decide +kernel
theorem dX3_sharedBeasts_40 : decode cX3_sharedBeasts 40 = .ok (.aload_n 0, 1) := by decide +kernel
theorem dX3_sharedBeasts_41 : decode cX3_sharedBeasts 41 = .ok (.iconst 1, 1) := by decide +kernel
theorem dX3_sharedBeasts_42 : decode cX3_sharedBeasts 42 = .ok (.invokevirtual 65, 3) := by decide +kernel
theorem dX3_sharedBeasts_45 : decode cX3_sharedBeasts 45 = .ok (.ireturn, 1) := by decide +kernel
set_option maxRecDepth 20000 in
theorem ggX3_isOpen_X3_isValley : GoodIn wsX3_isOpen wsX3_isValley := goodIn_r _ [6, 7, 8, 5, 9] (by decide +kernel) (by decide +kernel)
set_option maxRecDepth 20000 in
theorem gX3_isOpen_X3_isValley : GoodIn wsX3_isOpen (va_wsS RX3 62 yX3_isValley wsX3_isValley) := goodIn_app (goodIn_of _ (by decide +kernel)) ggX3_isOpen_X3_isValley
set_option maxRecDepth 20000 in
theorem ggX3_isOpen_X3_has : GoodIn wsX3_isOpen wsX3_has := goodIn_r _ [12] (by decide +kernel) (by decide +kernel)
set_option maxRecDepth 20000 in
theorem gX3_isOpen_X3_has : GoodIn wsX3_isOpen (va_wsS RX3 51 yX3_has wsX3_has) := goodIn_app (goodIn_of _ (by decide +kernel)) ggX3_isOpen_X3_has
set_option maxRecDepth 20000 in
theorem ggX3_isOpen_X3_failed : GoodIn wsX3_isOpen wsX3_failed := goodIn_r _ [16, 1, 17, 18, 19, 20, 21, 22, 23, 24, 25, 26, 27, 28, 29, 30] (by decide +kernel) (by decide +kernel)
set_option maxRecDepth 20000 in
theorem gX3_isOpen_X3_failed : GoodIn wsX3_isOpen (wsV RX3 82 RX3 yX3_failed wsX3_failed) := goodIn_app (goodIn_of _ (by decide +kernel)) ggX3_isOpen_X3_failed
theorem dX3_isOpen_0 : decode cX3_isOpen 0 = .ok (.aload_n 0, 1) := by decide +kernel
theorem dX3_isOpen_1 : decode cX3_isOpen 1 = .ok (.iconst 0, 1) := by decide +kernel
theorem dX3_isOpen_2 : decode cX3_isOpen 2 = .ok (.putfield 40, 3) := by decide +kernel
theorem dX3_isOpen_5 : decode cX3_isOpen 5 = .ok (.iload_n 1, 1) := by decide +kernel
theorem dX3_isOpen_6 : decode cX3_isOpen 6 = .ok (.invokestatic 62, 3) := by decide +kernel
theorem dX3_isOpen_9 : decode cX3_isOpen 9 = .ok (.ifCond .eq 23, 3) := by decide +kernel
theorem dX3_isOpen_12 : decode cX3_isOpen 12 = .ok (.iload_n 2, 1) := by decide +kernel
theorem dX3_isOpen_13 : decode cX3_isOpen 13 = .ok (.invokestatic 62, 3) := by decide +kernel
theorem dX3_isOpen_16 : decode cX3_isOpen 16 = .ok (.ifCond .eq 16, 3) := by decide +kernel
theorem dX3_isOpen_19 : decode cX3_isOpen 19 = .ok (.aload_n 0, 1) := by decide +kernel
theorem dX3_isOpen_20 : decode cX3_isOpen 20 = .ok (.getfield 31, 3) := by decide +kernel
theorem dX3_isOpen_23 : decode cX3_isOpen 23 = .ok (.iload_n 1, 1) := by decide +kernel
theorem dX3_isOpen_24 : decode cX3_isOpen 24 = .ok (.iaload, 1) := by decide +kernel
theorem dX3_isOpen_25 : decode cX3_isOpen 25 = .ok (.iload_n 2, 1) := by decide +kernel
theorem dX3_isOpen_26 : decode cX3_isOpen 26 = .ok (.invokestatic 51, 3) := by decide +kernel
theorem dX3_isOpen_29 : decode cX3_isOpen 29 = .ok (.goto 8, 3) := by decide +kernel
theorem dX3_isOpen_32 : decode cX3_isOpen 32 = .ok (.aload_n 0, 1) := by decide +kernel
theorem dX3_isOpen_33 : decode cX3_isOpen 33 = .ok (.iconst 1, 1) := by decide +kernel
theorem dX3_isOpen_34 : decode cX3_isOpen 34 = .ok (.invokevirtual 82, 3) := by decide +kernel
theorem dX3_isOpen_37 : decode cX3_isOpen 37 = .ok (.ireturn, 1) := by decide +kernel
set_option maxRecDepth 20000 in
theorem ggX3_isBanned_X3_isPlace : GoodIn wsX3_isBanned wsX3_isPlace := goodIn_r _ [6, 7, 8, 9, 5, 10, 11, 12, 13, 14, 15, 16, 17, 33, 34, 35, 36, 37, 38, 39, 40, 41, 42, 43, 44, 45, 46] (by decide +kernel) (by decide +kernel)
set_option maxRecDepth 20000 in
theorem gX3_isBanned_X3_isPlace : GoodIn wsX3_isBanned (wsV RX3 85 RX3 yX3_isPlace wsX3_isPlace) := goodIn_app (goodIn_of _ (by decide +kernel)) ggX3_isBanned_X3_isPlace
set_option maxRecDepth 20000 in
theorem ggX3_isBanned_X3_banned : GoodIn wsX3_isBanned wsX3_banned := goodIn_r _ [21, 22, 23, 24, 25, 26, 27, 5, 28, 33, 34, 35, 36, 37, 38, 39, 40, 41, 42, 43, 44, 45, 46] (by decide +kernel) (by decide +kernel)
set_option maxRecDepth 20000 in
theorem gX3_isBanned_X3_banned : GoodIn wsX3_isBanned (wsV RX3 88 RX3 yX3_banned wsX3_banned) := goodIn_app (goodIn_of _ (by decide +kernel)) ggX3_isBanned_X3_banned
set_option maxRecDepth 20000 in
theorem ggX3_isBanned_X3_failed : GoodIn wsX3_isBanned wsX3_failed := goodIn_r _ [32, 1, 33, 34, 35, 36, 37, 38, 39, 40, 41, 42, 43, 44, 45, 46] (by decide +kernel) (by decide +kernel)
set_option maxRecDepth 20000 in
theorem gX3_isBanned_X3_failed : GoodIn wsX3_isBanned (wsV RX3 82 RX3 yX3_failed wsX3_failed) := goodIn_app (goodIn_of _ (by decide +kernel)) ggX3_isBanned_X3_failed
theorem dX3_isBanned_0 : decode cX3_isBanned 0 = .ok (.aload_n 0, 1) := by decide +kernel
theorem dX3_isBanned_1 : decode cX3_isBanned 1 = .ok (.iconst 0, 1) := by decide +kernel
theorem dX3_isBanned_2 : decode cX3_isBanned 2 = .ok (.putfield 40, 3) := by decide +kernel
theorem dX3_isBanned_5 : decode cX3_isBanned 5 = .ok (.aload_n 0, 1) := by decide +kernel
theorem dX3_isBanned_6 : decode cX3_isBanned 6 = .ok (.iload_n 1, 1) := by decide +kernel
theorem dX3_isBanned_7 : decode cX3_isBanned 7 = .ok (.iload_n 2, 1) := by decide +kernel
theorem dX3_isBanned_8 : decode cX3_isBanned 8 = .ok (.invokevirtual 85, 3) := by decide +kernel
theorem dX3_isBanned_11 : decode cX3_isBanned 11 = .ok (.ifCond .eq 12, 3) := by decide +kernel
theorem dX3_isBanned_14 : decode cX3_isBanned 14 = .ok (.aload_n 0, 1) := by decide +kernel
theorem dX3_isBanned_15 : decode cX3_isBanned 15 = .ok (.iload_n 1, 1) := by decide +kernel
theorem dX3_isBanned_16 : decode cX3_isBanned 16 = .ok (.iload_n 2, 1) := by decide +kernel
theorem dX3_isBanned_17 : decode cX3_isBanned 17 = .ok (.invokevirtual 88, 3) := by decide +kernel
theorem dX3_isBanned_20 : decode cX3_isBanned 20 = .ok (.goto 8, 3) := by decide +kernel
theorem dX3_isBanned_23 : decode cX3_isBanned 23 = .ok (.aload_n 0, 1) := by decide +kernel
theorem dX3_isBanned_24 : decode cX3_isBanned 24 = .ok (.iconst 1, 1) := by decide +kernel
theorem dX3_isBanned_25 : decode cX3_isBanned 25 = .ok (.invokevirtual 82, 3) := by decide +kernel
theorem dX3_isBanned_28 : decode cX3_isBanned 28 = .ok (.ireturn, 1) := by decide +kernel
set_option maxRecDepth 20000 in
theorem ggX3_isTold_X3_isPlace : GoodIn wsX3_isTold wsX3_isPlace := goodIn_r _ [7, 8, 9, 10, 6, 11, 12, 13, 14, 15, 16, 17, 18, 26, 27, 28, 29, 30, 31, 32, 33, 34, 35, 36, 37, 38, 39] (by decide +kernel) (by decide +kernel)
set_option maxRecDepth 20000 in
theorem gX3_isTold_X3_isPlace : GoodIn wsX3_isTold (wsV RX3 85 RX3 yX3_isPlace wsX3_isPlace) := goodIn_app (goodIn_of _ (by decide +kernel)) ggX3_isTold_X3_isPlace
set_option maxRecDepth 20000 in
theorem ggX3_isTold_X3_has : GoodIn wsX3_isTold wsX3_has := goodIn_r _ [21] (by decide +kernel) (by decide +kernel)
set_option maxRecDepth 20000 in
theorem gX3_isTold_X3_has : GoodIn wsX3_isTold (va_wsS RX3 51 yX3_has wsX3_has) := goodIn_app (goodIn_of _ (by decide +kernel)) ggX3_isTold_X3_has
set_option maxRecDepth 20000 in
theorem ggX3_isTold_X3_failed : GoodIn wsX3_isTold wsX3_failed := goodIn_r _ [25, 1, 26, 27, 28, 29, 30, 31, 32, 33, 34, 35, 36, 37, 38, 39] (by decide +kernel) (by decide +kernel)
set_option maxRecDepth 20000 in
theorem gX3_isTold_X3_failed : GoodIn wsX3_isTold (wsV RX3 82 RX3 yX3_failed wsX3_failed) := goodIn_app (goodIn_of _ (by decide +kernel)) ggX3_isTold_X3_failed
theorem dX3_isTold_0 : decode cX3_isTold 0 = .ok (.aload_n 0, 1) := by decide +kernel
theorem dX3_isTold_1 : decode cX3_isTold 1 = .ok (.iconst 0, 1) := by decide +kernel
theorem dX3_isTold_2 : decode cX3_isTold 2 = .ok (.putfield 40, 3) := by decide +kernel
theorem dX3_isTold_5 : decode cX3_isTold 5 = .ok (.aload_n 0, 1) := by decide +kernel
theorem dX3_isTold_6 : decode cX3_isTold 6 = .ok (.iload_n 1, 1) := by decide +kernel
theorem dX3_isTold_7 : decode cX3_isTold 7 = .ok (.iload_n 2, 1) := by decide +kernel
theorem dX3_isTold_8 : decode cX3_isTold 8 = .ok (.invokevirtual 85, 3) := by decide +kernel
theorem dX3_isTold_11 : decode cX3_isTold 11 = .ok (.ifCond .eq 16, 3) := by decide +kernel
theorem dX3_isTold_14 : decode cX3_isTold 14 = .ok (.aload_n 0, 1) := by decide +kernel
theorem dX3_isTold_15 : decode cX3_isTold 15 = .ok (.getfield 22, 3) := by decide +kernel
theorem dX3_isTold_18 : decode cX3_isTold 18 = .ok (.iload_n 2, 1) := by decide +kernel
theorem dX3_isTold_19 : decode cX3_isTold 19 = .ok (.iaload, 1) := by decide +kernel
theorem dX3_isTold_20 : decode cX3_isTold 20 = .ok (.iload_n 1, 1) := by decide +kernel
theorem dX3_isTold_21 : decode cX3_isTold 21 = .ok (.invokestatic 51, 3) := by decide +kernel
theorem dX3_isTold_24 : decode cX3_isTold 24 = .ok (.goto 8, 3) := by decide +kernel
theorem dX3_isTold_27 : decode cX3_isTold 27 = .ok (.aload_n 0, 1) := by decide +kernel
theorem dX3_isTold_28 : decode cX3_isTold 28 = .ok (.iconst 1, 1) := by decide +kernel
theorem dX3_isTold_29 : decode cX3_isTold 29 = .ok (.invokevirtual 82, 3) := by decide +kernel
theorem dX3_isTold_32 : decode cX3_isTold 32 = .ok (.ireturn, 1) := by decide +kernel
set_option maxRecDepth 20000 in
theorem ggX3_toldIn_X3_isValley : GoodIn wsX3_toldIn wsX3_isValley := goodIn_r _ [6, 7, 8, 5, 9] (by decide +kernel) (by decide +kernel)
set_option maxRecDepth 20000 in
theorem gX3_toldIn_X3_isValley : GoodIn wsX3_toldIn (va_wsS RX3 62 yX3_isValley wsX3_isValley) := goodIn_app (goodIn_of _ (by decide +kernel)) ggX3_toldIn_X3_isValley
set_option maxRecDepth 20000 in
theorem ggX3_toldIn_X3_many : GoodIn wsX3_toldIn wsX3_many := goodIn_r _ [12] (by decide +kernel) (by decide +kernel)
set_option maxRecDepth 20000 in
theorem gX3_toldIn_X3_many : GoodIn wsX3_toldIn (va_wsS RX3 79 yX3_many wsX3_many) := goodIn_app (goodIn_of _ (by decide +kernel)) ggX3_toldIn_X3_many
set_option maxRecDepth 20000 in
theorem ggX3_toldIn_X3_fail : GoodIn wsX3_toldIn wsX3_fail := goodIn_r _ [16, 1, 17, 18, 19, 20, 21, 22, 23, 24, 25, 26, 27, 28, 29, 30] (by decide +kernel) (by decide +kernel)
set_option maxRecDepth 20000 in
theorem gX3_toldIn_X3_fail : GoodIn wsX3_toldIn (wsV RX3 65 RX3 yX3_fail wsX3_fail) := goodIn_app (goodIn_of _ (by decide +kernel)) ggX3_toldIn_X3_fail
theorem dX3_toldIn_0 : decode cX3_toldIn 0 = .ok (.aload_n 0, 1) := by decide +kernel
theorem dX3_toldIn_1 : decode cX3_toldIn 1 = .ok (.iconst 0, 1) := by decide +kernel
theorem dX3_toldIn_2 : decode cX3_toldIn 2 = .ok (.putfield 40, 3) := by decide +kernel
theorem dX3_toldIn_5 : decode cX3_toldIn 5 = .ok (.iload_n 1, 1) := by decide +kernel
theorem dX3_toldIn_6 : decode cX3_toldIn 6 = .ok (.invokestatic 62, 3) := by decide +kernel
theorem dX3_toldIn_9 : decode cX3_toldIn 9 = .ok (.ifCond .eq 15, 3) := by decide +kernel
theorem dX3_toldIn_12 : decode cX3_toldIn 12 = .ok (.aload_n 0, 1) := by decide +kernel
theorem dX3_toldIn_13 : decode cX3_toldIn 13 = .ok (.getfield 22, 3) := by decide +kernel
theorem dX3_toldIn_16 : decode cX3_toldIn 16 = .ok (.iload_n 1, 1) := by decide +kernel
theorem dX3_toldIn_17 : decode cX3_toldIn 17 = .ok (.iaload, 1) := by decide +kernel
theorem dX3_toldIn_18 : decode cX3_toldIn 18 = .ok (.invokestatic 79, 3) := by decide +kernel
theorem dX3_toldIn_21 : decode cX3_toldIn 21 = .ok (.goto 8, 3) := by decide +kernel
theorem dX3_toldIn_24 : decode cX3_toldIn 24 = .ok (.aload_n 0, 1) := by decide +kernel
theorem dX3_toldIn_25 : decode cX3_toldIn 25 = .ok (.iconst 1, 1) := by decide +kernel
theorem dX3_toldIn_26 : decode cX3_toldIn 26 = .ok (.invokevirtual 65, 3) := by decide +kernel
theorem dX3_toldIn_29 : decode cX3_toldIn 29 = .ok (.ireturn, 1) := by decide +kernel
set_option maxRecDepth 20000 in
theorem ggX3_allowed_X3_banned : GoodIn wsX3_allowed wsX3_banned := goodIn_r _ [6, 7, 8, 9, 10, 11, 12, 5, 13, 14, 15, 16, 17, 18, 19, 20, 21, 22, 23, 24, 25, 26, 27] (by decide +kernel) (by decide +kernel)
set_option maxRecDepth 20000 in
theorem gX3_allowed_X3_banned : GoodIn wsX3_allowed (wsV RX3 88 RX3 yX3_banned wsX3_banned) := goodIn_app (goodIn_of _ (by decide +kernel)) ggX3_allowed_X3_banned
theorem dX3_allowed_0 : decode cX3_allowed 0 = .ok (.iconst 0, 1) := by decide +kernel
theorem dX3_allowed_1 : decode cX3_allowed 1 = .ok (.istore_n 2, 1) := by decide +kernel
theorem dX3_allowed_2 : decode cX3_allowed 2 = .ok (.iconst 0, 1) := by decide +kernel
theorem dX3_allowed_3 : decode cX3_allowed 3 = .ok (.istore_n 3, 1) := by decide +kernel
theorem dX3_allowed_4 : decode cX3_allowed 4 = .ok (.iload_n 3, 1) := by decide +kernel
theorem dX3_allowed_5 : decode cX3_allowed 5 = .ok (.aload_n 0, 1) := by decide +kernel
theorem dX3_allowed_6 : decode cX3_allowed 6 = .ok (.getfield 44, 3) := by decide +kernel
theorem dX3_allowed_9 : decode cX3_allowed 9 = .ok (.if_icmp .ge 26, 3) := by decide +kernel
theorem dX3_allowed_12 : decode cX3_allowed 12 = .ok (.iload_n 2, 1) := by decide +kernel
theorem dX3_allowed_13 : decode cX3_allowed 13 = .ok (.aload_n 0, 1) := by decide +kernel
theorem dX3_allowed_14 : decode cX3_allowed 14 = .ok (.iload_n 3, 1) := by decide +kernel
theorem dX3_allowed_15 : decode cX3_allowed 15 = .ok (.iload_n 1, 1) := by decide +kernel
theorem dX3_allowed_16 : decode cX3_allowed 16 = .ok (.invokevirtual 88, 3) := by decide +kernel
theorem dX3_allowed_19 : decode cX3_allowed 19 = .ok (.ifCond .eq 7, 3) := by decide +kernel
theorem dX3_allowed_22 : decode cX3_allowed 22 = .ok (.iconst 0, 1) := by decide +kernel
theorem dX3_allowed_23 : decode cX3_allowed 23 = .ok (.goto 4, 3) := by decide +kernel
theorem dX3_allowed_26 : decode cX3_allowed 26 = .ok (.iconst 1, 1) := by decide +kernel
theorem dX3_allowed_27 : decode cX3_allowed 27 = .ok (.iadd, 1) := by decide +kernel
theorem dX3_allowed_28 : decode cX3_allowed 28 = .ok (.istore_n 2, 1) := by decide +kernel
theorem dX3_allowed_29 : decode cX3_allowed 29 = .ok (.iinc 3 1, 3) := by decide +kernel
theorem dX3_allowed_32 : decode cX3_allowed 32 = .ok (.goto (-28), 3) := by decide +kernel
theorem dX3_allowed_35 : decode cX3_allowed 35 = .ok (.iload_n 2, 1) := by decide +kernel
theorem dX3_allowed_36 : decode cX3_allowed 36 = .ok (.ireturn, 1) := by decide +kernel
set_option maxRecDepth 20000 in
theorem ggX3_allowedIn_X3_isValley : GoodIn wsX3_allowedIn wsX3_isValley := goodIn_r _ [5, 6, 7, 4, 8] (by decide +kernel) (by decide +kernel)
set_option maxRecDepth 20000 in
theorem gX3_allowedIn_X3_isValley : GoodIn wsX3_allowedIn (va_wsS RX3 62 yX3_isValley wsX3_isValley) := goodIn_app (goodIn_of _ (by decide +kernel)) ggX3_allowedIn_X3_isValley
set_option maxRecDepth 20000 in
theorem ggX3_allowedIn_X3_allowed : GoodIn wsX3_allowedIn wsX3_allowed := goodIn_r _ [12, 13, 14, 15, 16, 4, 17, 18, 19, 20, 21, 22, 23, 24, 29, 30, 31, 32, 33, 34, 35, 36, 37, 38, 39, 40, 41, 42] (by decide +kernel) (by decide +kernel)
set_option maxRecDepth 20000 in
theorem gX3_allowedIn_X3_allowed : GoodIn wsX3_allowedIn (wsV RX3 123 RX3 yX3_allowed wsX3_allowed) := goodIn_app (goodIn_of _ (by decide +kernel)) ggX3_allowedIn_X3_allowed
set_option maxRecDepth 20000 in
theorem ggX3_allowedIn_X3_fail : GoodIn wsX3_allowedIn wsX3_fail := goodIn_r _ [28, 1, 29, 30, 31, 32, 33, 34, 35, 36, 37, 38, 39, 40, 41, 42] (by decide +kernel) (by decide +kernel)
set_option maxRecDepth 20000 in
theorem gX3_allowedIn_X3_fail : GoodIn wsX3_allowedIn (wsV RX3 65 RX3 yX3_fail wsX3_fail) := goodIn_app (goodIn_of _ (by decide +kernel)) ggX3_allowedIn_X3_fail
theorem dX3_allowedIn_0 : decode cX3_allowedIn 0 = .ok (.aload_n 0, 1) := by decide +kernel
theorem dX3_allowedIn_1 : decode cX3_allowedIn 1 = .ok (.iconst 0, 1) := by decide +kernel
theorem dX3_allowedIn_2 : decode cX3_allowedIn 2 = .ok (.putfield 40, 3) := by decide +kernel
theorem dX3_allowedIn_5 : decode cX3_allowedIn 5 = .ok (.iload_n 1, 1) := by decide +kernel
theorem dX3_allowedIn_6 : decode cX3_allowedIn 6 = .ok (.invokestatic 62, 3) := by decide +kernel
theorem dX3_allowedIn_9 : decode cX3_allowedIn 9 = .ok (.ifCond .eq 11, 3) := by decide +kernel
theorem dX3_allowedIn_12 : decode cX3_allowedIn 12 = .ok (.aload_n 0, 1) := by decide +kernel
theorem dX3_allowedIn_13 : decode cX3_allowedIn 13 = .ok (.iload_n 1, 1) := by decide +kernel
theorem dX3_allowedIn_14 : decode cX3_allowedIn 14 = .ok (.invokevirtual 123, 3) := by decide +kernel
theorem dX3_allowedIn_17 : decode cX3_allowedIn 17 = .ok (.goto 8, 3) := by decide +kernel
theorem dX3_allowedIn_20 : decode cX3_allowedIn 20 = .ok (.aload_n 0, 1) := by decide +kernel
theorem dX3_allowedIn_21 : decode cX3_allowedIn 21 = .ok (.iconst 1, 1) := by decide +kernel
theorem dX3_allowedIn_22 : decode cX3_allowedIn 22 = .ok (.invokevirtual 65, 3) := by decide +kernel
theorem dX3_allowedIn_25 : decode cX3_allowedIn 25 = .ok (.ireturn, 1) := by decide +kernel
set_option maxRecDepth 20000 in
theorem ggX3_bansIn_X3_many : GoodIn wsX3_bansIn wsX3_many := goodIn_r _ [6] (by decide +kernel) (by decide +kernel)
set_option maxRecDepth 20000 in
theorem gX3_bansIn_X3_many : GoodIn wsX3_bansIn (va_wsS RX3 79 yX3_many wsX3_many) := goodIn_app (goodIn_of _ (by decide +kernel)) ggX3_bansIn_X3_many
theorem dX3_bansIn_0 : decode cX3_bansIn 0 = .ok (.aload_n 0, 1) := by decide +kernel
theorem dX3_bansIn_1 : decode cX3_bansIn 1 = .ok (.getfield 25, 3) := by decide +kernel
theorem dX3_bansIn_4 : decode cX3_bansIn 4 = .ok (.iload_n 1, 1) := by decide +kernel
theorem dX3_bansIn_5 : decode cX3_bansIn 5 = .ok (.iaload, 1) := by decide +kernel
theorem dX3_bansIn_6 : decode cX3_bansIn 6 = .ok (.invokestatic 79, 3) := by decide +kernel
theorem dX3_bansIn_9 : decode cX3_bansIn 9 = .ok (.aload_n 0, 1) := by decide +kernel
theorem dX3_bansIn_10 : decode cX3_bansIn 10 = .ok (.getfield 28, 3) := by decide +kernel
theorem dX3_bansIn_13 : decode cX3_bansIn 13 = .ok (.iload_n 1, 1) := by decide +kernel
theorem dX3_bansIn_14 : decode cX3_bansIn 14 = .ok (.iaload, 1) := by decide +kernel
theorem dX3_bansIn_15 : decode cX3_bansIn 15 = .ok (.invokestatic 79, 3) := by decide +kernel
theorem dX3_bansIn_18 : decode cX3_bansIn 18 = .ok (.iadd, 1) := by decide +kernel
theorem dX3_bansIn_19 : decode cX3_bansIn 19 = .ok (.ireturn, 1) := by decide +kernel
set_option maxRecDepth 20000 in
theorem ggX3_bansOf_X3_isValley : GoodIn wsX3_bansOf wsX3_isValley := goodIn_r _ [5, 6, 7, 4, 8] (by decide +kernel) (by decide +kernel)
set_option maxRecDepth 20000 in
theorem gX3_bansOf_X3_isValley : GoodIn wsX3_bansOf (va_wsS RX3 62 yX3_isValley wsX3_isValley) := goodIn_app (goodIn_of _ (by decide +kernel)) ggX3_bansOf_X3_isValley
set_option maxRecDepth 20000 in
theorem ggX3_bansOf_X3_bansIn : GoodIn wsX3_bansOf wsX3_bansIn := goodIn_r _ [12, 13, 14, 15, 16, 4, 17, 22, 23, 24, 25, 26, 27, 28, 29, 30, 31, 32, 33, 34, 35] (by decide +kernel) (by decide +kernel)
set_option maxRecDepth 20000 in
theorem gX3_bansOf_X3_bansIn : GoodIn wsX3_bansOf (wsV RX3 126 RX3 yX3_bansIn wsX3_bansIn) := goodIn_app (goodIn_of _ (by decide +kernel)) ggX3_bansOf_X3_bansIn
set_option maxRecDepth 20000 in
theorem ggX3_bansOf_X3_fail : GoodIn wsX3_bansOf wsX3_fail := goodIn_r _ [21, 1, 22, 23, 24, 25, 26, 27, 28, 29, 30, 31, 32, 33, 34, 35] (by decide +kernel) (by decide +kernel)
set_option maxRecDepth 20000 in
theorem gX3_bansOf_X3_fail : GoodIn wsX3_bansOf (wsV RX3 65 RX3 yX3_fail wsX3_fail) := goodIn_app (goodIn_of _ (by decide +kernel)) ggX3_bansOf_X3_fail
theorem dX3_bansOf_0 : decode cX3_bansOf 0 = .ok (.aload_n 0, 1) := by decide +kernel
theorem dX3_bansOf_1 : decode cX3_bansOf 1 = .ok (.iconst 0, 1) := by decide +kernel
theorem dX3_bansOf_2 : decode cX3_bansOf 2 = .ok (.putfield 40, 3) := by decide +kernel
theorem dX3_bansOf_5 : decode cX3_bansOf 5 = .ok (.iload_n 1, 1) := by decide +kernel
theorem dX3_bansOf_6 : decode cX3_bansOf 6 = .ok (.invokestatic 62, 3) := by decide +kernel
theorem dX3_bansOf_9 : decode cX3_bansOf 9 = .ok (.ifCond .eq 11, 3) := by decide +kernel
theorem dX3_bansOf_12 : decode cX3_bansOf 12 = .ok (.aload_n 0, 1) := by decide +kernel
theorem dX3_bansOf_13 : decode cX3_bansOf 13 = .ok (.iload_n 1, 1) := by decide +kernel
theorem dX3_bansOf_14 : decode cX3_bansOf 14 = .ok (.invokevirtual 126, 3) := by decide +kernel
theorem dX3_bansOf_17 : decode cX3_bansOf 17 = .ok (.goto 8, 3) := by decide +kernel
theorem dX3_bansOf_20 : decode cX3_bansOf 20 = .ok (.aload_n 0, 1) := by decide +kernel
theorem dX3_bansOf_21 : decode cX3_bansOf 21 = .ok (.iconst 1, 1) := by decide +kernel
theorem dX3_bansOf_22 : decode cX3_bansOf 22 = .ok (.invokevirtual 65, 3) := by decide +kernel
theorem dX3_bansOf_25 : decode cX3_bansOf 25 = .ok (.ireturn, 1) := by decide +kernel
theorem dX3_fables_0 : decode cX3_fables 0 = .ok (.aload_n 0, 1) := by decide +kernel
theorem dX3_fables_1 : decode cX3_fables 1 = .ok (.iconst 0, 1) := by decide +kernel
theorem dX3_fables_2 : decode cX3_fables 2 = .ok (.putfield 40, 3) := by decide +kernel
theorem dX3_fables_5 : decode cX3_fables 5 = .ok (.aload_n 0, 1) := by decide +kernel
theorem dX3_fables_6 : decode cX3_fables 6 = .ok (.getfield 44, 3) := by decide +kernel
theorem dX3_fables_9 : decode cX3_fables 9 = .ok (.ireturn, 1) := by decide +kernel
theorem dX3_season_0 : decode cX3_season 0 = .ok (.aload_n 0, 1) := by decide +kernel
theorem dX3_season_1 : decode cX3_season 1 = .ok (.iconst 0, 1) := by decide +kernel
theorem dX3_season_2 : decode cX3_season 2 = .ok (.putfield 40, 3) := by decide +kernel
theorem dX3_season_5 : decode cX3_season 5 = .ok (.aload_n 0, 1) := by decide +kernel
theorem dX3_season_6 : decode cX3_season 6 = .ok (.getfield 111, 3) := by decide +kernel
theorem dX3_season_9 : decode cX3_season 9 = .ok (.ireturn, 1) := by decide +kernel
set_option maxRecDepth 20000 in
theorem ggX3_tellings_X3_all : GoodIn wsX3_tellings wsX3_all := goodIn_r _ [6, 7, 8, 9, 5, 10, 11, 12, 13, 14, 15, 16, 17, 18, 19, 20, 21, 22, 23, 24] (by decide +kernel) (by decide +kernel)
set_option maxRecDepth 20000 in
theorem gX3_tellings_X3_all : GoodIn wsX3_tellings (wsV RX3 114 RX3 yX3_all wsX3_all) := goodIn_app (goodIn_of _ (by decide +kernel)) ggX3_tellings_X3_all
theorem dX3_tellings_0 : decode cX3_tellings 0 = .ok (.aload_n 0, 1) := by decide +kernel
theorem dX3_tellings_1 : decode cX3_tellings 1 = .ok (.iconst 0, 1) := by decide +kernel
theorem dX3_tellings_2 : decode cX3_tellings 2 = .ok (.putfield 40, 3) := by decide +kernel
theorem dX3_tellings_5 : decode cX3_tellings 5 = .ok (.aload_n 0, 1) := by decide +kernel
theorem dX3_tellings_6 : decode cX3_tellings 6 = .ok (.invokevirtual 114, 3) := by decide +kernel
theorem dX3_tellings_9 : decode cX3_tellings 9 = .ok (.ireturn, 1) := by decide +kernel
theorem dX3_silenced_0 : decode cX3_silenced 0 = .ok (.aload_n 0, 1) := by decide +kernel
theorem dX3_silenced_1 : decode cX3_silenced 1 = .ok (.iconst 0, 1) := by decide +kernel
theorem dX3_silenced_2 : decode cX3_silenced 2 = .ok (.putfield 40, 3) := by decide +kernel
theorem dX3_silenced_5 : decode cX3_silenced 5 = .ok (.aload_n 0, 1) := by decide +kernel
theorem dX3_silenced_6 : decode cX3_silenced 6 = .ok (.getfield 104, 3) := by decide +kernel
theorem dX3_silenced_9 : decode cX3_silenced 9 = .ok (.ireturn, 1) := by decide +kernel
set_option maxRecDepth 20000 in
theorem ggX3_fablesWithMoral_X3_isMoral : GoodIn wsX3_fablesWithMoral wsX3_isMoral := goodIn_r _ [7, 8, 9, 6, 10] (by decide +kernel) (by decide +kernel)
set_option maxRecDepth 20000 in
theorem gX3_fablesWithMoral_X3_isMoral : GoodIn wsX3_fablesWithMoral (va_wsS RX3 55 yX3_isMoral wsX3_isMoral) := goodIn_app (goodIn_of _ (by decide +kernel)) ggX3_fablesWithMoral_X3_isMoral
set_option maxRecDepth 20000 in
theorem ggX3_fablesWithMoral_X3_fail : GoodIn wsX3_fablesWithMoral wsX3_fail := goodIn_r _ [14, 1, 15, 16, 17, 18, 19, 20, 21, 22, 23, 24, 25, 26, 27, 28] (by decide +kernel) (by decide +kernel)
set_option maxRecDepth 20000 in
theorem gX3_fablesWithMoral_X3_fail : GoodIn wsX3_fablesWithMoral (wsV RX3 65 RX3 yX3_fail wsX3_fail) := goodIn_app (goodIn_of _ (by decide +kernel)) ggX3_fablesWithMoral_X3_fail
theorem dX3_fablesWithMoral_0 : decode cX3_fablesWithMoral 0 = .ok (.aload_n 0, 1) := by decide +kernel
theorem dX3_fablesWithMoral_1 : decode cX3_fablesWithMoral 1 = .ok (.iconst 0, 1) := by decide +kernel
theorem dX3_fablesWithMoral_2 : decode cX3_fablesWithMoral 2 = .ok (.putfield 40, 3) := by decide +kernel
theorem dX3_fablesWithMoral_5 : decode cX3_fablesWithMoral 5 = .ok (.iload_n 1, 1) := by decide +kernel
theorem dX3_fablesWithMoral_6 : decode cX3_fablesWithMoral 6 = .ok (.invokestatic 55, 3) := by decide +kernel
theorem dX3_fablesWithMoral_9 : decode cX3_fablesWithMoral 9 = .ok (.ifCond .ne 9, 3) := by decide +kernel
theorem dX3_fablesWithMoral_12 : decode cX3_fablesWithMoral 12 = .ok (.aload_n 0, 1) := by decide +kernel
theorem dX3_fablesWithMoral_13 : decode cX3_fablesWithMoral 13 = .ok (.iconst 1, 1) := by decide +kernel
theorem dX3_fablesWithMoral_14 : decode cX3_fablesWithMoral 14 = .ok (.invokevirtual 65, 3) := by decide +kernel
theorem dX3_fablesWithMoral_17 : decode cX3_fablesWithMoral 17 = .ok (.ireturn, 1) := by decide +kernel
theorem dX3_fablesWithMoral_18 : decode cX3_fablesWithMoral 18 = .ok (.iconst 0, 1) := by decide +kernel
theorem dX3_fablesWithMoral_19 : decode cX3_fablesWithMoral 19 = .ok (.istore_n 2, 1) := by decide +kernel
theorem dX3_fablesWithMoral_20 : decode cX3_fablesWithMoral 20 = .ok (.iconst 0, 1) := by decide +kernel
theorem dX3_fablesWithMoral_21 : decode cX3_fablesWithMoral 21 = .ok (.istore_n 3, 1) := by decide +kernel
theorem dX3_fablesWithMoral_22 : decode cX3_fablesWithMoral 22 = .ok (.iload_n 3, 1) := by decide +kernel
theorem dX3_fablesWithMoral_23 : decode cX3_fablesWithMoral 23 = .ok (.aload_n 0, 1) := by decide +kernel
theorem dX3_fablesWithMoral_24 : decode cX3_fablesWithMoral 24 = .ok (.getfield 44, 3) := by decide +kernel
theorem dX3_fablesWithMoral_27 : decode cX3_fablesWithMoral 27 = .ok (.if_icmp .ge 27, 3) := by decide +kernel
theorem dX3_fablesWithMoral_30 : decode cX3_fablesWithMoral 30 = .ok (.iload_n 2, 1) := by decide +kernel
theorem dX3_fablesWithMoral_31 : decode cX3_fablesWithMoral 31 = .ok (.aload_n 0, 1) := by decide +kernel
theorem dX3_fablesWithMoral_32 : decode cX3_fablesWithMoral 32 = .ok (.getfield 9, 3) := by decide +kernel
theorem dX3_fablesWithMoral_35 : decode cX3_fablesWithMoral 35 = .ok (.iload_n 3, 1) := by decide +kernel
theorem dX3_fablesWithMoral_36 : decode cX3_fablesWithMoral 36 = .ok (.iaload, 1) := by decide +kernel
theorem dX3_fablesWithMoral_37 : decode cX3_fablesWithMoral 37 = .ok (.iload_n 1, 1) := by decide +kernel
theorem dX3_fablesWithMoral_38 : decode cX3_fablesWithMoral 38 = .ok (.if_icmp .ne 7, 3) := by decide +kernel
theorem dX3_fablesWithMoral_41 : decode cX3_fablesWithMoral 41 = .ok (.iconst 1, 1) := by decide +kernel
theorem dX3_fablesWithMoral_42 : decode cX3_fablesWithMoral 42 = .ok (.goto 4, 3) := by decide +kernel
theorem dX3_fablesWithMoral_45 : decode cX3_fablesWithMoral 45 = .ok (.iconst 0, 1) := by decide +kernel
theorem dX3_fablesWithMoral_46 : decode cX3_fablesWithMoral 46 = .ok (.iadd, 1) := by decide +kernel
theorem dX3_fablesWithMoral_47 : decode cX3_fablesWithMoral 47 = .ok (.istore_n 2, 1) := by decide +kernel
theorem dX3_fablesWithMoral_48 : decode cX3_fablesWithMoral 48 = .ok (.iinc 3 1, 3) := by decide +kernel
theorem dX3_fablesWithMoral_51 : decode cX3_fablesWithMoral 51 = .ok (.goto (-29), 3) := by decide +kernel
theorem dX3_fablesWithMoral_54 : decode cX3_fablesWithMoral 54 = .ok (.iload_n 2, 1) := by decide +kernel
theorem dX3_fablesWithMoral_55 : decode cX3_fablesWithMoral 55 = .ok (.ireturn, 1) := by decide +kernel
set_option maxRecDepth 20000 in
theorem ggX3_fablesWithBeast_X3_isBeast : GoodIn wsX3_fablesWithBeast wsX3_isBeast := goodIn_r _ [7, 8, 9, 6, 10] (by decide +kernel) (by decide +kernel)
set_option maxRecDepth 20000 in
theorem gX3_fablesWithBeast_X3_isBeast : GoodIn wsX3_fablesWithBeast (va_wsS RX3 59 yX3_isBeast wsX3_isBeast) := goodIn_app (goodIn_of _ (by decide +kernel)) ggX3_fablesWithBeast_X3_isBeast
set_option maxRecDepth 20000 in
theorem ggX3_fablesWithBeast_X3_fail : GoodIn wsX3_fablesWithBeast wsX3_fail := goodIn_r _ [14, 1, 18, 19, 20, 21, 22, 23, 24, 25, 26, 27, 28, 29, 30, 31] (by decide +kernel) (by decide +kernel)
set_option maxRecDepth 20000 in
theorem gX3_fablesWithBeast_X3_fail : GoodIn wsX3_fablesWithBeast (wsV RX3 65 RX3 yX3_fail wsX3_fail) := goodIn_app (goodIn_of _ (by decide +kernel)) ggX3_fablesWithBeast_X3_fail
set_option maxRecDepth 20000 in
theorem ggX3_fablesWithBeast_X3_has : GoodIn wsX3_fablesWithBeast wsX3_has := goodIn_r _ [17] (by decide +kernel) (by decide +kernel)
set_option maxRecDepth 20000 in
theorem gX3_fablesWithBeast_X3_has : GoodIn wsX3_fablesWithBeast (va_wsS RX3 51 yX3_has wsX3_has) := goodIn_app (goodIn_of _ (by decide +kernel)) ggX3_fablesWithBeast_X3_has
theorem dX3_fablesWithBeast_0 : decode cX3_fablesWithBeast 0 = .ok (.aload_n 0, 1) := by decide +kernel
theorem dX3_fablesWithBeast_1 : decode cX3_fablesWithBeast 1 = .ok (.iconst 0, 1) := by decide +kernel
theorem dX3_fablesWithBeast_2 : decode cX3_fablesWithBeast 2 = .ok (.putfield 40, 3) := by decide +kernel
theorem dX3_fablesWithBeast_5 : decode cX3_fablesWithBeast 5 = .ok (.iload_n 1, 1) := by decide +kernel
theorem dX3_fablesWithBeast_6 : decode cX3_fablesWithBeast 6 = .ok (.invokestatic 59, 3) := by decide +kernel
theorem dX3_fablesWithBeast_9 : decode cX3_fablesWithBeast 9 = .ok (.ifCond .ne 9, 3) := by decide +kernel
theorem dX3_fablesWithBeast_12 : decode cX3_fablesWithBeast 12 = .ok (.aload_n 0, 1) := by decide +kernel
theorem dX3_fablesWithBeast_13 : decode cX3_fablesWithBeast 13 = .ok (.iconst 1, 1) := by decide +kernel
theorem dX3_fablesWithBeast_14 : decode cX3_fablesWithBeast 14 = .ok (.invokevirtual 65, 3) := by decide +kernel
theorem dX3_fablesWithBeast_17 : decode cX3_fablesWithBeast 17 = .ok (.ireturn, 1) := by decide +kernel
theorem dX3_fablesWithBeast_18 : decode cX3_fablesWithBeast 18 = .ok (.iconst 0, 1) := by decide +kernel
theorem dX3_fablesWithBeast_19 : decode cX3_fablesWithBeast 19 = .ok (.istore_n 2, 1) := by decide +kernel
theorem dX3_fablesWithBeast_20 : decode cX3_fablesWithBeast 20 = .ok (.iconst 0, 1) := by decide +kernel
theorem dX3_fablesWithBeast_21 : decode cX3_fablesWithBeast 21 = .ok (.istore_n 3, 1) := by decide +kernel
theorem dX3_fablesWithBeast_22 : decode cX3_fablesWithBeast 22 = .ok (.iload_n 3, 1) := by decide +kernel
theorem dX3_fablesWithBeast_23 : decode cX3_fablesWithBeast 23 = .ok (.aload_n 0, 1) := by decide +kernel
theorem dX3_fablesWithBeast_24 : decode cX3_fablesWithBeast 24 = .ok (.getfield 44, 3) := by decide +kernel
theorem dX3_fablesWithBeast_27 : decode cX3_fablesWithBeast 27 = .ok (.if_icmp .ge 30, 3) := by decide +kernel
theorem dX3_fablesWithBeast_30 : decode cX3_fablesWithBeast 30 = .ok (.iload_n 2, 1) := by decide +kernel
theorem dX3_fablesWithBeast_31 : decode cX3_fablesWithBeast 31 = .ok (.aload_n 0, 1) := by decide +kernel
theorem dX3_fablesWithBeast_32 : decode cX3_fablesWithBeast 32 = .ok (.getfield 13, 3) := by decide +kernel
theorem dX3_fablesWithBeast_35 : decode cX3_fablesWithBeast 35 = .ok (.iload_n 3, 1) := by decide +kernel
theorem dX3_fablesWithBeast_36 : decode cX3_fablesWithBeast 36 = .ok (.iaload, 1) := by decide +kernel
theorem dX3_fablesWithBeast_37 : decode cX3_fablesWithBeast 37 = .ok (.iload_n 1, 1) := by decide +kernel
theorem dX3_fablesWithBeast_38 : decode cX3_fablesWithBeast 38 = .ok (.invokestatic 51, 3) := by decide +kernel
theorem dX3_fablesWithBeast_41 : decode cX3_fablesWithBeast 41 = .ok (.ifCond .eq 7, 3) := by decide +kernel
theorem dX3_fablesWithBeast_44 : decode cX3_fablesWithBeast 44 = .ok (.iconst 1, 1) := by decide +kernel
theorem dX3_fablesWithBeast_45 : decode cX3_fablesWithBeast 45 = .ok (.goto 4, 3) := by decide +kernel
theorem dX3_fablesWithBeast_48 : decode cX3_fablesWithBeast 48 = .ok (.iconst 0, 1) := by decide +kernel
theorem dX3_fablesWithBeast_49 : decode cX3_fablesWithBeast 49 = .ok (.iadd, 1) := by decide +kernel
theorem dX3_fablesWithBeast_50 : decode cX3_fablesWithBeast 50 = .ok (.istore_n 2, 1) := by decide +kernel
theorem dX3_fablesWithBeast_51 : decode cX3_fablesWithBeast 51 = .ok (.iinc 3 1, 3) := by decide +kernel
theorem dX3_fablesWithBeast_54 : decode cX3_fablesWithBeast 54 = .ok (.goto (-32), 3) := by decide +kernel
theorem dX3_fablesWithBeast_57 : decode cX3_fablesWithBeast 57 = .ok (.iload_n 2, 1) := by decide +kernel
theorem dX3_fablesWithBeast_58 : decode cX3_fablesWithBeast 58 = .ok (.ireturn, 1) := by decide +kernel
set_option maxRecDepth 20000 in
theorem ggX3_favourite_X3_has : GoodIn wsX3_favourite wsX3_has := goodIn_r _ [7] (by decide +kernel) (by decide +kernel)
set_option maxRecDepth 20000 in
theorem gX3_favourite_X3_has : GoodIn wsX3_favourite (va_wsS RX3 51 yX3_has wsX3_has) := goodIn_app (goodIn_of _ (by decide +kernel)) ggX3_favourite_X3_has
set_option maxRecDepth 20000 in
theorem ggX3_favourite_X3_placesOf : GoodIn wsX3_favourite wsX3_placesOf := goodIn_r _ [11, 12, 4, 5, 6, 7, 13, 14, 15, 16, 17, 18, 19, 20, 21, 22, 23, 24, 25, 26] (by decide +kernel) (by decide +kernel)
set_option maxRecDepth 20000 in
theorem gX3_favourite_X3_placesOf : GoodIn wsX3_favourite (wsV RX3 91 RX3 yX3_placesOf wsX3_placesOf) := goodIn_app (goodIn_of _ (by decide +kernel)) ggX3_favourite_X3_placesOf
theorem dX3_favourite_0 : decode cX3_favourite 0 = .ok (.iconst (-1), 1) := by decide +kernel
theorem dX3_favourite_1 : decode cX3_favourite 1 = .ok (.istore_n 2, 1) := by decide +kernel
theorem dX3_favourite_2 : decode cX3_favourite 2 = .ok (.iconst 0, 1) := by decide +kernel
theorem dX3_favourite_3 : decode cX3_favourite 3 = .ok (.istore_n 3, 1) := by decide +kernel
theorem dX3_favourite_4 : decode cX3_favourite 4 = .ok (.iconst 0, 1) := by decide +kernel
theorem dX3_favourite_5 : decode cX3_favourite 5 = .ok (.istore 4, 2) := by decide +kernel
theorem dX3_favourite_7 : decode cX3_favourite 7 = .ok (.iload 4, 2) := by decide +kernel
theorem dX3_favourite_9 : decode cX3_favourite 9 = .ok (.iload_n 1, 1) := by decide +kernel
theorem dX3_favourite_10 : decode cX3_favourite 10 = .ok (.ifCond .eq 8, 3) := by decide +kernel
theorem dX3_favourite_13 : decode cX3_favourite 13 = .ok (.bipush 10, 2) := by decide +kernel
theorem dX3_favourite_15 : decode cX3_favourite 15 = .ok (.goto 5, 3) := by decide +kernel
theorem dX3_favourite_18 : decode cX3_favourite 18 = .ok (.bipush 12, 2) := by decide +kernel
theorem dX3_favourite_20 : decode cX3_favourite 20 = .ok (.if_icmp .ge 90, 3) := by decide +kernel
theorem dX3_favourite_23 : decode cX3_favourite 23 = .ok (.iconst 0, 1) := by decide +kernel
theorem dX3_favourite_24 : decode cX3_favourite 24 = .ok (.istore 5, 2) := by decide +kernel
theorem dX3_favourite_26 : decode cX3_favourite 26 = .ok (.iconst 0, 1) := by decide +kernel
theorem dX3_favourite_27 : decode cX3_favourite 27 = .ok (.istore 6, 2) := by decide +kernel
theorem dX3_favourite_29 : decode cX3_favourite 29 = .ok (.iload 6, 2) := by decide +kernel
theorem dX3_favourite_31 : decode cX3_favourite 31 = .ok (.aload_n 0, 1) := by decide +kernel
theorem dX3_favourite_32 : decode cX3_favourite 32 = .ok (.getfield 44, 3) := by decide +kernel
theorem dX3_favourite_35 : decode cX3_favourite 35 = .ok (.if_icmp .ge 54, 3) := by decide +kernel
theorem dX3_favourite_38 : decode cX3_favourite 38 = .ok (.iload_n 1, 1) := by decide +kernel
theorem dX3_favourite_39 : decode cX3_favourite 39 = .ok (.ifCond .eq 18, 3) := by decide +kernel
theorem dX3_favourite_42 : decode cX3_favourite 42 = .ok (.aload_n 0, 1) := by decide +kernel
theorem dX3_favourite_43 : decode cX3_favourite 43 = .ok (.getfield 9, 3) := by decide +kernel
theorem dX3_favourite_46 : decode cX3_favourite 46 = .ok (.iload 6, 2) := by decide +kernel
theorem dX3_favourite_48 : decode cX3_favourite 48 = .ok (.iaload, 1) := by decide +kernel
theorem dX3_favourite_49 : decode cX3_favourite 49 = .ok (.iload 4, 2) := by decide +kernel
theorem dX3_favourite_51 : decode cX3_favourite 51 = .ok (.if_icmp .ne 32, 3) := by decide +kernel
theorem dX3_favourite_54 : decode cX3_favourite 54 = .ok (.goto 18, 3) := by decide +kernel
theorem dX3_favourite_57 : decode cX3_favourite 57 = .ok (.aload_n 0, 1) := by decide +kernel
theorem dX3_favourite_58 : decode cX3_favourite 58 = .ok (.getfield 13, 3) := by decide +kernel
theorem dX3_favourite_61 : decode cX3_favourite 61 = .ok (.iload 6, 2) := by decide +kernel
theorem dX3_favourite_63 : decode cX3_favourite 63 = .ok (.iaload, 1) := by decide +kernel
theorem dX3_favourite_64 : decode cX3_favourite 64 = .ok (.iload 4, 2) := by decide +kernel
theorem dX3_favourite_66 : decode cX3_favourite 66 = .ok (.invokestatic 51, 3) := by decide +kernel
theorem dX3_favourite_69 : decode cX3_favourite 69 = .ok (.ifCond .eq 14, 3) := by decide +kernel
theorem dX3_favourite_72 : decode cX3_favourite 72 = .ok (.iload 5, 2) := by decide +kernel
theorem dX3_favourite_74 : decode cX3_favourite 74 = .ok (.aload_n 0, 1) := by decide +kernel
theorem dX3_favourite_75 : decode cX3_favourite 75 = .ok (.iload 6, 2) := by decide +kernel
theorem dX3_favourite_77 : decode cX3_favourite 77 = .ok (.invokevirtual 91, 3) := by decide +kernel
theorem dX3_favourite_80 : decode cX3_favourite 80 = .ok (.iadd, 1) := by decide +kernel
theorem dX3_favourite_81 : decode cX3_favourite 81 = .ok (.istore 5, 2) := by decide +kernel
theorem dX3_favourite_83 : decode cX3_favourite 83 = .ok (.iinc 6 1, 3) := by decide +kernel
theorem dX3_favourite_86 : decode cX3_favourite 86 = .ok (.goto (-57), 3) := by decide +kernel
theorem dX3_favourite_89 : decode cX3_favourite 89 = .ok (.iload 5, 2) := by decide +kernel
theorem dX3_favourite_91 : decode cX3_favourite 91 = .ok (.iload_n 3, 1) := by decide +kernel
theorem dX3_favourite_92 : decode cX3_favourite 92 = .ok (.if_icmp .gt 6, 3) := by decide +kernel
theorem dX3_favourite_95 : decode cX3_favourite 95 = .ok (.goto 9, 3) := by decide +kernel
theorem dX3_favourite_98 : decode cX3_favourite 98 = .ok (.iload 4, 2) := by decide +kernel
theorem dX3_favourite_100 : decode cX3_favourite 100 = .ok (.istore_n 2, 1) := by decide +kernel
theorem dX3_favourite_101 : decode cX3_favourite 101 = .ok (.iload 5, 2) := by decide +kernel
theorem dX3_favourite_103 : decode cX3_favourite 103 = .ok (.istore_n 3, 1) := by decide +kernel
theorem dX3_favourite_104 : decode cX3_favourite 104 = .ok (.iinc 4 1, 3) := by decide +kernel
theorem dX3_favourite_107 : decode cX3_favourite 107 = .ok (.goto (-100), 3) := by decide +kernel
theorem dX3_favourite_110 : decode cX3_favourite 110 = .ok (.iload_n 2, 1) := by decide +kernel
theorem dX3_favourite_111 : decode cX3_favourite 111 = .ok (.ireturn, 1) := by decide +kernel
set_option maxRecDepth 20000 in
theorem ggX3_favouriteMoral_X3_favourite : GoodIn wsX3_favouriteMoral wsX3_favourite := goodIn_r _ [6, 7, 8, 9, 10, 11, 5, 12, 13, 14, 15, 16, 17, 18, 19, 20, 21, 22, 23, 24, 25, 26, 27, 28, 29, 30, 31] (by decide +kernel) (by decide +kernel)
set_option maxRecDepth 20000 in
theorem gX3_favouriteMoral_X3_favourite : GoodIn wsX3_favouriteMoral (wsV RX3 129 RX3 yX3_favourite wsX3_favourite) := goodIn_app (goodIn_of _ (by decide +kernel)) ggX3_favouriteMoral_X3_favourite
theorem dX3_favouriteMoral_0 : decode cX3_favouriteMoral 0 = .ok (.aload_n 0, 1) := by decide +kernel
theorem dX3_favouriteMoral_1 : decode cX3_favouriteMoral 1 = .ok (.iconst 0, 1) := by decide +kernel
theorem dX3_favouriteMoral_2 : decode cX3_favouriteMoral 2 = .ok (.putfield 40, 3) := by decide +kernel
theorem dX3_favouriteMoral_5 : decode cX3_favouriteMoral 5 = .ok (.aload_n 0, 1) := by decide +kernel
theorem dX3_favouriteMoral_6 : decode cX3_favouriteMoral 6 = .ok (.iconst 1, 1) := by decide +kernel
theorem dX3_favouriteMoral_7 : decode cX3_favouriteMoral 7 = .ok (.invokevirtual 129, 3) := by decide +kernel
theorem dX3_favouriteMoral_10 : decode cX3_favouriteMoral 10 = .ok (.ireturn, 1) := by decide +kernel
set_option maxRecDepth 20000 in
theorem ggX3_favouriteBeast_X3_favourite : GoodIn wsX3_favouriteBeast wsX3_favourite := goodIn_r _ [6, 7, 8, 9, 10, 11, 5, 12, 13, 14, 15, 16, 17, 18, 19, 20, 21, 22, 23, 24, 25, 26, 27, 28, 29, 30, 31] (by decide +kernel) (by decide +kernel)
set_option maxRecDepth 20000 in
theorem gX3_favouriteBeast_X3_favourite : GoodIn wsX3_favouriteBeast (wsV RX3 129 RX3 yX3_favourite wsX3_favourite) := goodIn_app (goodIn_of _ (by decide +kernel)) ggX3_favouriteBeast_X3_favourite
theorem dX3_favouriteBeast_0 : decode cX3_favouriteBeast 0 = .ok (.aload_n 0, 1) := by decide +kernel
theorem dX3_favouriteBeast_1 : decode cX3_favouriteBeast 1 = .ok (.iconst 0, 1) := by decide +kernel
theorem dX3_favouriteBeast_2 : decode cX3_favouriteBeast 2 = .ok (.putfield 40, 3) := by decide +kernel
theorem dX3_favouriteBeast_5 : decode cX3_favouriteBeast 5 = .ok (.aload_n 0, 1) := by decide +kernel
theorem dX3_favouriteBeast_6 : decode cX3_favouriteBeast 6 = .ok (.iconst 0, 1) := by decide +kernel
theorem dX3_favouriteBeast_7 : decode cX3_favouriteBeast 7 = .ok (.invokevirtual 129, 3) := by decide +kernel
theorem dX3_favouriteBeast_10 : decode cX3_favouriteBeast 10 = .ok (.ireturn, 1) := by decide +kernel
theorem dX3_keep_0 : decode cX3_keep 0 = .ok (.aload_n 0, 1) := by decide +kernel
theorem dX3_keep_1 : decode cX3_keep 1 = .ok (.getfield 22, 3) := by decide +kernel
theorem dX3_keep_4 : decode cX3_keep 4 = .ok (.iconst 0, 1) := by decide +kernel
theorem dX3_keep_5 : decode cX3_keep 5 = .ok (.aload_n 0, 1) := by decide +kernel
theorem dX3_keep_6 : decode cX3_keep 6 = .ok (.getfield 37, 3) := by decide +kernel
theorem dX3_keep_9 : decode cX3_keep 9 = .ok (.iconst 0, 1) := by decide +kernel
theorem dX3_keep_10 : decode cX3_keep 10 = .ok (.bipush 6, 2) := by decide +kernel
theorem dX3_keep_12 : decode cX3_keep 12 = .ok (.invokestatic 98, 3) := by decide +kernel
theorem dX3_keep_15 : decode cX3_keep 15 = .ok (.return_, 1) := by decide +kernel
theorem dX3_bringBack_0 : decode cX3_bringBack 0 = .ok (.aload_n 0, 1) := by decide +kernel
theorem dX3_bringBack_1 : decode cX3_bringBack 1 = .ok (.getfield 37, 3) := by decide +kernel
theorem dX3_bringBack_4 : decode cX3_bringBack 4 = .ok (.iconst 0, 1) := by decide +kernel
theorem dX3_bringBack_5 : decode cX3_bringBack 5 = .ok (.aload_n 0, 1) := by decide +kernel
theorem dX3_bringBack_6 : decode cX3_bringBack 6 = .ok (.getfield 22, 3) := by decide +kernel
theorem dX3_bringBack_9 : decode cX3_bringBack 9 = .ok (.iconst 0, 1) := by decide +kernel
theorem dX3_bringBack_10 : decode cX3_bringBack 10 = .ok (.bipush 6, 2) := by decide +kernel
theorem dX3_bringBack_12 : decode cX3_bringBack 12 = .ok (.invokestatic 98, 3) := by decide +kernel
theorem dX3_bringBack_15 : decode cX3_bringBack 15 = .ok (.return_, 1) := by decide +kernel
set_option maxRecDepth 20000 in
theorem ggX3_seasonsUntil_X3_isPlace : GoodIn wsX3_seasonsUntil wsX3_isPlace := goodIn_r _ [7, 8, 9, 10, 6, 11, 12, 13, 14, 15, 16, 17, 18, 58, 59, 60, 61, 62, 63, 64, 65, 66, 67, 68, 69, 70, 71] (by decide +kernel) (by decide +kernel)
set_option maxRecDepth 20000 in
theorem gX3_seasonsUntil_X3_isPlace : GoodIn wsX3_seasonsUntil (wsV RX3 85 RX3 yX3_isPlace wsX3_isPlace) := goodIn_app (goodIn_of _ (by decide +kernel)) ggX3_seasonsUntil_X3_isPlace
set_option maxRecDepth 20000 in
theorem ggX3_seasonsUntil_X3_fail : GoodIn wsX3_seasonsUntil wsX3_fail := goodIn_r _ [22, 1, 58, 59, 60, 61, 62, 63, 64, 65, 66, 67, 68, 69, 70, 71] (by decide +kernel) (by decide +kernel)
set_option maxRecDepth 20000 in
theorem gX3_seasonsUntil_X3_fail : GoodIn wsX3_seasonsUntil (wsV RX3 65 RX3 yX3_fail wsX3_fail) := goodIn_app (goodIn_of _ (by decide +kernel)) ggX3_seasonsUntil_X3_fail
set_option maxRecDepth 20000 in
theorem ggX3_seasonsUntil_X3_keep : GoodIn wsX3_seasonsUntil wsX3_keep := goodIn_r _ [26, 2, 27, 28, 29, 30, 31, 58, 59, 60, 61, 62, 63, 64, 65, 66, 67, 68, 69, 70, 71] (by decide +kernel) (by decide +kernel)
set_option maxRecDepth 20000 in
theorem gX3_seasonsUntil_X3_keep : GoodIn wsX3_seasonsUntil (wsV RX3 133 RX3 yX3_keep wsX3_keep) := goodIn_app (goodIn_of _ (by decide +kernel)) ggX3_seasonsUntil_X3_keep
set_option maxRecDepth 20000 in
theorem ggX3_seasonsUntil_X3_has : GoodIn wsX3_seasonsUntil wsX3_has := goodIn_r _ [34] (by decide +kernel) (by decide +kernel)
set_option maxRecDepth 20000 in
theorem gX3_seasonsUntil_X3_has : GoodIn wsX3_seasonsUntil (va_wsS RX3 51 yX3_has wsX3_has) := goodIn_app (goodIn_of _ (by decide +kernel)) ggX3_seasonsUntil_X3_has
set_option maxRecDepth 20000 in
theorem ggX3_seasonsUntil_X3_seasonOn : GoodIn wsX3_seasonsUntil wsX3_seasonOn := goodIn_r _ [38, 12, 2, 39, 40, 28, 29, 30, 31, 32, 33, 6, 34, 41, 42, 43, 44, 45, 46, 47, 48, 49, 50, 51, 52, 53, 58, 59, 60, 61, 62, 63, 64, 65, 66, 67, 68, 69, 70, 71] (by decide +kernel) (by decide +kernel)
set_option maxRecDepth 20000 in
theorem gX3_seasonsUntil_X3_seasonOn : GoodIn wsX3_seasonsUntil (wsV RX3 107 RX3 yX3_seasonOn wsX3_seasonOn) := goodIn_app (goodIn_of _ (by decide +kernel)) ggX3_seasonsUntil_X3_seasonOn
set_option maxRecDepth 20000 in
theorem ggX3_seasonsUntil_X3_bringBack : GoodIn wsX3_seasonsUntil wsX3_bringBack := goodIn_r _ [57, 27, 2, 28, 29, 30, 31, 58, 59, 60, 61, 62, 63, 64, 65, 66, 67, 68, 69, 70, 71] (by decide +kernel) (by decide +kernel)
set_option maxRecDepth 20000 in
theorem gX3_seasonsUntil_X3_bringBack : GoodIn wsX3_seasonsUntil (wsV RX3 136 RX3 yX3_bringBack wsX3_bringBack) := goodIn_app (goodIn_of _ (by decide +kernel)) ggX3_seasonsUntil_X3_bringBack
theorem dX3_seasonsUntil_0 : decode cX3_seasonsUntil 0 = .ok (.aload_n 0, 1) := by decide +kernel
theorem dX3_seasonsUntil_1 : decode cX3_seasonsUntil 1 = .ok (.iconst 0, 1) := by decide +kernel
theorem dX3_seasonsUntil_2 : decode cX3_seasonsUntil 2 = .ok (.putfield 40, 3) := by decide +kernel
theorem dX3_seasonsUntil_5 : decode cX3_seasonsUntil 5 = .ok (.aload_n 0, 1) := by decide +kernel
theorem dX3_seasonsUntil_6 : decode cX3_seasonsUntil 6 = .ok (.iload_n 1, 1) := by decide +kernel
theorem dX3_seasonsUntil_7 : decode cX3_seasonsUntil 7 = .ok (.iload_n 2, 1) := by decide +kernel
theorem dX3_seasonsUntil_8 : decode cX3_seasonsUntil 8 = .ok (.invokevirtual 85, 3) := by decide +kernel
theorem dX3_seasonsUntil_11 : decode cX3_seasonsUntil 11 = .ok (.ifCond .ne 9, 3) := by decide +kernel
theorem dX3_seasonsUntil_14 : decode cX3_seasonsUntil 14 = .ok (.aload_n 0, 1) := by decide +kernel
theorem dX3_seasonsUntil_15 : decode cX3_seasonsUntil 15 = .ok (.iconst 1, 1) := by decide +kernel
theorem dX3_seasonsUntil_16 : decode cX3_seasonsUntil 16 = .ok (.invokevirtual 65, 3) := by decide +kernel
theorem dX3_seasonsUntil_19 : decode cX3_seasonsUntil 19 = .ok (.ireturn, 1) := by decide +kernel
theorem dX3_seasonsUntil_20 : decode cX3_seasonsUntil 20 = .ok (.aload_n 0, 1) := by decide +kernel
theorem dX3_seasonsUntil_21 : decode cX3_seasonsUntil 21 = .ok (.invokevirtual 133, 3) := by decide +kernel
theorem dX3_seasonsUntil_24 : decode cX3_seasonsUntil 24 = .ok (.iconst 0, 1) := by decide +kernel
theorem dX3_seasonsUntil_25 : decode cX3_seasonsUntil 25 = .ok (.istore_n 3, 1) := by decide +kernel
theorem dX3_seasonsUntil_26 : decode cX3_seasonsUntil 26 = .ok (.iload_n 3, 1) := by decide +kernel
theorem dX3_seasonsUntil_27 : decode cX3_seasonsUntil 27 = .ok (.bipush 40, 2) := by decide +kernel
theorem dX3_seasonsUntil_29 : decode cX3_seasonsUntil 29 = .ok (.if_icmp .gt 27, 3) := by decide +kernel
theorem dX3_seasonsUntil_32 : decode cX3_seasonsUntil 32 = .ok (.aload_n 0, 1) := by decide +kernel
theorem dX3_seasonsUntil_33 : decode cX3_seasonsUntil 33 = .ok (.getfield 22, 3) := by decide +kernel
theorem dX3_seasonsUntil_36 : decode cX3_seasonsUntil 36 = .ok (.iload_n 2, 1) := by decide +kernel
theorem dX3_seasonsUntil_37 : decode cX3_seasonsUntil 37 = .ok (.iaload, 1) := by decide +kernel
theorem dX3_seasonsUntil_38 : decode cX3_seasonsUntil 38 = .ok (.iload_n 1, 1) := by decide +kernel
theorem dX3_seasonsUntil_39 : decode cX3_seasonsUntil 39 = .ok (.invokestatic 51, 3) := by decide +kernel
theorem dX3_seasonsUntil_42 : decode cX3_seasonsUntil 42 = .ok (.ifCond .ne 14, 3) := by decide +kernel
theorem dX3_seasonsUntil_45 : decode cX3_seasonsUntil 45 = .ok (.aload_n 0, 1) := by decide +kernel
theorem dX3_seasonsUntil_46 : decode cX3_seasonsUntil 46 = .ok (.invokevirtual 107, 3) := by decide +kernel
theorem dX3_seasonsUntil_49 : decode cX3_seasonsUntil 49 = .ok (.pop, 1) := by decide +kernel
theorem dX3_seasonsUntil_50 : decode cX3_seasonsUntil 50 = .ok (.iinc 3 1, 3) := by decide +kernel
theorem dX3_seasonsUntil_53 : decode cX3_seasonsUntil 53 = .ok (.goto (-27), 3) := by decide +kernel
theorem dX3_seasonsUntil_56 : decode cX3_seasonsUntil 56 = .ok (.aload_n 0, 1) := by decide +kernel
theorem dX3_seasonsUntil_57 : decode cX3_seasonsUntil 57 = .ok (.invokevirtual 136, 3) := by decide +kernel
theorem dX3_seasonsUntil_60 : decode cX3_seasonsUntil 60 = .ok (.iload_n 3, 1) := by decide +kernel
theorem dX3_seasonsUntil_61 : decode cX3_seasonsUntil 61 = .ok (.bipush 40, 2) := by decide +kernel
theorem dX3_seasonsUntil_63 : decode cX3_seasonsUntil 63 = .ok (.if_icmp .le 7, 3) := by decide +kernel
theorem dX3_seasonsUntil_66 : decode cX3_seasonsUntil 66 = .ok (.iconst (-1), 1) := by decide +kernel
theorem dX3_seasonsUntil_67 : decode cX3_seasonsUntil 67 = .ok (.goto 4, 3) := by decide +kernel
theorem dX3_seasonsUntil_70 : decode cX3_seasonsUntil 70 = .ok (.iload_n 3, 1) := by decide +kernel
theorem dX3_seasonsUntil_71 : decode cX3_seasonsUntil 71 = .ok (.ireturn, 1) := by decide +kernel
set_option maxRecDepth 20000 in
theorem ggX3_after_X3_keep : GoodIn wsX3_after wsX3_keep := goodIn_r _ [5, 6, 7, 8, 9, 10, 11, 46, 47, 48, 49, 50, 51, 52, 53, 54, 55, 56, 57, 58, 59] (by decide +kernel) (by decide +kernel)
set_option maxRecDepth 20000 in
theorem gX3_after_X3_keep : GoodIn wsX3_after (wsV RX3 133 RX3 yX3_keep wsX3_keep) := goodIn_app (goodIn_of _ (by decide +kernel)) ggX3_after_X3_keep
set_option maxRecDepth 20000 in
theorem ggX3_after_X3_seasonOn : GoodIn wsX3_after wsX3_seasonOn := goodIn_r _ [15, 16, 6, 17, 18, 8, 9, 10, 11, 19, 20, 4, 21, 22, 23, 24, 25, 26, 27, 28, 29, 30, 31, 32, 33, 34, 46, 47, 48, 49, 50, 51, 52, 53, 54, 55, 56, 57, 58, 59] (by decide +kernel) (by decide +kernel)
set_option maxRecDepth 20000 in
theorem gX3_after_X3_seasonOn : GoodIn wsX3_after (wsV RX3 107 RX3 yX3_seasonOn wsX3_seasonOn) := goodIn_app (goodIn_of _ (by decide +kernel)) ggX3_after_X3_seasonOn
set_option maxRecDepth 20000 in
theorem ggX3_after_X3_all : GoodIn wsX3_after wsX3_all := goodIn_r _ [38, 6, 39, 40, 4, 41, 46, 47, 48, 49, 50, 51, 52, 53, 54, 55, 56, 57, 58, 59] (by decide +kernel) (by decide +kernel)
set_option maxRecDepth 20000 in
theorem gX3_after_X3_all : GoodIn wsX3_after (wsV RX3 114 RX3 yX3_all wsX3_all) := goodIn_app (goodIn_of _ (by decide +kernel)) ggX3_after_X3_all
set_option maxRecDepth 20000 in
theorem ggX3_after_X3_bringBack : GoodIn wsX3_after wsX3_bringBack := goodIn_r _ [45, 7, 6, 8, 9, 10, 11, 46, 47, 48, 49, 50, 51, 52, 53, 54, 55, 56, 57, 58, 59] (by decide +kernel) (by decide +kernel)
set_option maxRecDepth 20000 in
theorem gX3_after_X3_bringBack : GoodIn wsX3_after (wsV RX3 136 RX3 yX3_bringBack wsX3_bringBack) := goodIn_app (goodIn_of _ (by decide +kernel)) ggX3_after_X3_bringBack
theorem dX3_after_0 : decode cX3_after 0 = .ok (.aload_n 0, 1) := by decide +kernel
theorem dX3_after_1 : decode cX3_after 1 = .ok (.invokevirtual 133, 3) := by decide +kernel
theorem dX3_after_4 : decode cX3_after 4 = .ok (.iconst 0, 1) := by decide +kernel
theorem dX3_after_5 : decode cX3_after 5 = .ok (.istore_n 2, 1) := by decide +kernel
theorem dX3_after_6 : decode cX3_after 6 = .ok (.iload_n 2, 1) := by decide +kernel
theorem dX3_after_7 : decode cX3_after 7 = .ok (.iload_n 1, 1) := by decide +kernel
theorem dX3_after_8 : decode cX3_after 8 = .ok (.if_icmp .ge 14, 3) := by decide +kernel
theorem dX3_after_11 : decode cX3_after 11 = .ok (.aload_n 0, 1) := by decide +kernel
theorem dX3_after_12 : decode cX3_after 12 = .ok (.invokevirtual 107, 3) := by decide +kernel
theorem dX3_after_15 : decode cX3_after 15 = .ok (.pop, 1) := by decide +kernel
theorem dX3_after_16 : decode cX3_after 16 = .ok (.iinc 2 1, 3) := by decide +kernel
theorem dX3_after_19 : decode cX3_after 19 = .ok (.goto (-13), 3) := by decide +kernel
theorem dX3_after_22 : decode cX3_after 22 = .ok (.aload_n 0, 1) := by decide +kernel
theorem dX3_after_23 : decode cX3_after 23 = .ok (.invokevirtual 114, 3) := by decide +kernel
theorem dX3_after_26 : decode cX3_after 26 = .ok (.istore_n 2, 1) := by decide +kernel
theorem dX3_after_27 : decode cX3_after 27 = .ok (.aload_n 0, 1) := by decide +kernel
theorem dX3_after_28 : decode cX3_after 28 = .ok (.invokevirtual 136, 3) := by decide +kernel
theorem dX3_after_31 : decode cX3_after 31 = .ok (.iload_n 2, 1) := by decide +kernel
theorem dX3_after_32 : decode cX3_after 32 = .ok (.ireturn, 1) := by decide +kernel
set_option maxRecDepth 20000 in
theorem ggX3_tellingsAfter_X3_isIn : GoodIn wsX3_tellingsAfter wsX3_isIn := goodIn_r _ [5] (by decide +kernel) (by decide +kernel)
set_option maxRecDepth 20000 in
theorem gX3_tellingsAfter_X3_isIn : GoodIn wsX3_tellingsAfter (va_wsS RX3 47 yX3_isIn wsX3_isIn) := goodIn_app (goodIn_of _ (by decide +kernel)) ggX3_tellingsAfter_X3_isIn
set_option maxRecDepth 20000 in
theorem ggX3_tellingsAfter_X3_after : GoodIn wsX3_tellingsAfter wsX3_after := goodIn_r _ [9, 10, 11, 12, 4, 13, 14, 15, 16, 17, 18, 19, 20, 21, 22, 23, 24, 25, 26, 27, 28, 29, 30, 31, 32, 33, 34, 35, 36, 37, 38, 39, 40, 41, 42, 43, 44, 45, 46, 47, 48, 49, 50, 51, 52, 53, 58, 59, 60, 61, 62, 63, 64, 65, 66, 67, 68, 69, 70, 71] (by decide +kernel) (by decide +kernel)
set_option maxRecDepth 20000 in
theorem gX3_tellingsAfter_X3_after : GoodIn wsX3_tellingsAfter (wsV RX3 139 RX3 yX3_after wsX3_after) := goodIn_app (goodIn_of _ (by decide +kernel)) ggX3_tellingsAfter_X3_after
set_option maxRecDepth 20000 in
theorem ggX3_tellingsAfter_X3_fail : GoodIn wsX3_tellingsAfter wsX3_fail := goodIn_r _ [57, 1, 58, 59, 60, 61, 62, 63, 64, 65, 66, 67, 68, 69, 70, 71] (by decide +kernel) (by decide +kernel)
set_option maxRecDepth 20000 in
theorem gX3_tellingsAfter_X3_fail : GoodIn wsX3_tellingsAfter (wsV RX3 65 RX3 yX3_fail wsX3_fail) := goodIn_app (goodIn_of _ (by decide +kernel)) ggX3_tellingsAfter_X3_fail
theorem dX3_tellingsAfter_0 : decode cX3_tellingsAfter 0 = .ok (.aload_n 0, 1) := by decide +kernel
theorem dX3_tellingsAfter_1 : decode cX3_tellingsAfter 1 = .ok (.iconst 0, 1) := by decide +kernel
theorem dX3_tellingsAfter_2 : decode cX3_tellingsAfter 2 = .ok (.putfield 40, 3) := by decide +kernel
theorem dX3_tellingsAfter_5 : decode cX3_tellingsAfter 5 = .ok (.iload_n 1, 1) := by decide +kernel
theorem dX3_tellingsAfter_6 : decode cX3_tellingsAfter 6 = .ok (.iconst 1, 1) := by decide +kernel
theorem dX3_tellingsAfter_7 : decode cX3_tellingsAfter 7 = .ok (.bipush 40, 2) := by decide +kernel
theorem dX3_tellingsAfter_9 : decode cX3_tellingsAfter 9 = .ok (.invokestatic 47, 3) := by decide +kernel
theorem dX3_tellingsAfter_12 : decode cX3_tellingsAfter 12 = .ok (.ifCond .eq 11, 3) := by decide +kernel
theorem dX3_tellingsAfter_15 : decode cX3_tellingsAfter 15 = .ok (.aload_n 0, 1) := by decide +kernel
theorem dX3_tellingsAfter_16 : decode cX3_tellingsAfter 16 = .ok (.iload_n 1, 1) := by decide +kernel
theorem dX3_tellingsAfter_17 : decode cX3_tellingsAfter 17 = .ok (.invokevirtual 139, 3) := by decide +kernel
theorem dX3_tellingsAfter_20 : decode cX3_tellingsAfter 20 = .ok (.goto 8, 3) := by decide +kernel
theorem dX3_tellingsAfter_23 : decode cX3_tellingsAfter 23 = .ok (.aload_n 0, 1) := by decide +kernel
theorem dX3_tellingsAfter_24 : decode cX3_tellingsAfter 24 = .ok (.iconst 1, 1) := by decide +kernel
theorem dX3_tellingsAfter_25 : decode cX3_tellingsAfter 25 = .ok (.invokevirtual 65, 3) := by decide +kernel
theorem dX3_tellingsAfter_28 : decode cX3_tellingsAfter 28 = .ok (.ireturn, 1) := by decide +kernel
set_option maxRecDepth 20000 in
theorem ggX3_bestPass_X3_isIn : GoodIn wsX3_bestPass wsX3_isIn := goodIn_r _ [6] (by decide +kernel) (by decide +kernel)
set_option maxRecDepth 20000 in
theorem gX3_bestPass_X3_isIn : GoodIn wsX3_bestPass (va_wsS RX3 47 yX3_isIn wsX3_isIn) := goodIn_app (goodIn_of _ (by decide +kernel)) ggX3_bestPass_X3_isIn
set_option maxRecDepth 20000 in
theorem ggX3_bestPass_X3_fail : GoodIn wsX3_bestPass wsX3_fail := goodIn_r _ [10, 1, 58, 59, 60, 61, 62, 63, 64, 65, 66, 67, 68, 69, 70, 71] (by decide +kernel) (by decide +kernel)
set_option maxRecDepth 20000 in
theorem gX3_bestPass_X3_fail : GoodIn wsX3_bestPass (wsV RX3 65 RX3 yX3_fail wsX3_fail) := goodIn_app (goodIn_of _ (by decide +kernel)) ggX3_bestPass_X3_fail
set_option maxRecDepth 20000 in
theorem ggX3_bestPass_X3_after : GoodIn wsX3_bestPass wsX3_after := goodIn_r _ [14, 15, 16, 17, 5, 18, 19, 20, 21, 22, 23, 24, 25, 26, 27, 28, 29, 30, 2, 31, 32, 33, 34, 35, 36, 37, 38, 39, 40, 41, 42, 43, 44, 45, 46, 47, 48, 49, 50, 51, 52, 53, 54, 55, 56, 57, 58, 59, 60, 61, 62, 63, 64, 65, 66, 67, 68, 69, 70, 71] (by decide +kernel) (by decide +kernel)
set_option maxRecDepth 20000 in
theorem gX3_bestPass_X3_after : GoodIn wsX3_bestPass (wsV RX3 139 RX3 yX3_after wsX3_after) := goodIn_app (goodIn_of _ (by decide +kernel)) ggX3_bestPass_X3_after
set_option maxRecDepth 20000 in
theorem ggX3_bestPass_X3_has : GoodIn wsX3_bestPass wsX3_has := goodIn_r _ [33] (by decide +kernel) (by decide +kernel)
set_option maxRecDepth 20000 in
theorem gX3_bestPass_X3_has : GoodIn wsX3_bestPass (va_wsS RX3 51 yX3_has wsX3_has) := goodIn_app (goodIn_of _ (by decide +kernel)) ggX3_bestPass_X3_has
theorem dX3_bestPass_0 : decode cX3_bestPass 0 = .ok (.aload_n 0, 1) := by decide +kernel
theorem dX3_bestPass_1 : decode cX3_bestPass 1 = .ok (.iconst 0, 1) := by decide +kernel
theorem dX3_bestPass_2 : decode cX3_bestPass 2 = .ok (.putfield 40, 3) := by decide +kernel
theorem dX3_bestPass_5 : decode cX3_bestPass 5 = .ok (.iload_n 1, 1) := by decide +kernel
theorem dX3_bestPass_6 : decode cX3_bestPass 6 = .ok (.iconst 1, 1) := by decide +kernel
theorem dX3_bestPass_7 : decode cX3_bestPass 7 = .ok (.bipush 20, 2) := by decide +kernel
theorem dX3_bestPass_9 : decode cX3_bestPass 9 = .ok (.invokestatic 47, 3) := by decide +kernel
theorem dX3_bestPass_12 : decode cX3_bestPass 12 = .ok (.ifCond .ne 9, 3) := by decide +kernel
theorem dX3_bestPass_15 : decode cX3_bestPass 15 = .ok (.aload_n 0, 1) := by decide +kernel
theorem dX3_bestPass_16 : decode cX3_bestPass 16 = .ok (.iconst 1, 1) := by decide +kernel
theorem dX3_bestPass_17 : decode cX3_bestPass 17 = .ok (.invokevirtual 65, 3) := by decide +kernel
theorem dX3_bestPass_20 : decode cX3_bestPass 20 = .ok (.ireturn, 1) := by decide +kernel
theorem dX3_bestPass_21 : decode cX3_bestPass 21 = .ok (.iconst (-1), 1) := by decide +kernel
theorem dX3_bestPass_22 : decode cX3_bestPass 22 = .ok (.istore_n 2, 1) := by decide +kernel
theorem dX3_bestPass_23 : decode cX3_bestPass 23 = .ok (.aload_n 0, 1) := by decide +kernel
theorem dX3_bestPass_24 : decode cX3_bestPass 24 = .ok (.iload_n 1, 1) := by decide +kernel
theorem dX3_bestPass_25 : decode cX3_bestPass 25 = .ok (.invokevirtual 139, 3) := by decide +kernel
theorem dX3_bestPass_28 : decode cX3_bestPass 28 = .ok (.istore_n 3, 1) := by decide +kernel
theorem dX3_bestPass_29 : decode cX3_bestPass 29 = .ok (.iconst 0, 1) := by decide +kernel
theorem dX3_bestPass_30 : decode cX3_bestPass 30 = .ok (.istore 4, 2) := by decide +kernel
theorem dX3_bestPass_32 : decode cX3_bestPass 32 = .ok (.iload 4, 2) := by decide +kernel
theorem dX3_bestPass_34 : decode cX3_bestPass 34 = .ok (.bipush 6, 2) := by decide +kernel
theorem dX3_bestPass_36 : decode cX3_bestPass 36 = .ok (.if_icmp .ge 134, 3) := by decide +kernel
theorem dX3_bestPass_39 : decode cX3_bestPass 39 = .ok (.iload 4, 2) := by decide +kernel
theorem dX3_bestPass_41 : decode cX3_bestPass 41 = .ok (.iconst 1, 1) := by decide +kernel
theorem dX3_bestPass_42 : decode cX3_bestPass 42 = .ok (.iadd, 1) := by decide +kernel
theorem dX3_bestPass_43 : decode cX3_bestPass 43 = .ok (.istore 5, 2) := by decide +kernel
theorem dX3_bestPass_45 : decode cX3_bestPass 45 = .ok (.iload 5, 2) := by decide +kernel
theorem dX3_bestPass_47 : decode cX3_bestPass 47 = .ok (.bipush 6, 2) := by decide +kernel
theorem dX3_bestPass_49 : decode cX3_bestPass 49 = .ok (.if_icmp .ge 115, 3) := by decide +kernel
theorem dX3_bestPass_52 : decode cX3_bestPass 52 = .ok (.aload_n 0, 1) := by decide +kernel
theorem dX3_bestPass_53 : decode cX3_bestPass 53 = .ok (.getfield 31, 3) := by decide +kernel
theorem dX3_bestPass_56 : decode cX3_bestPass 56 = .ok (.iload 4, 2) := by decide +kernel
theorem dX3_bestPass_58 : decode cX3_bestPass 58 = .ok (.iaload, 1) := by decide +kernel
theorem dX3_bestPass_59 : decode cX3_bestPass 59 = .ok (.iload 5, 2) := by decide +kernel
theorem dX3_bestPass_61 : decode cX3_bestPass 61 = .ok (.invokestatic 51, 3) := by decide +kernel
theorem dX3_bestPass_64 : decode cX3_bestPass 64 = .ok (.ifCond .eq 6, 3) := by decide +kernel
theorem dX3_bestPass_67 : decode cX3_bestPass 67 = .ok (.goto 91, 3) := by decide +kernel
theorem dX3_bestPass_70 : decode cX3_bestPass 70 = .ok (.aload_n 0, 1) := by decide +kernel
theorem dX3_bestPass_71 : decode cX3_bestPass 71 = .ok (.getfield 31, 3) := by decide +kernel
theorem dX3_bestPass_74 : decode cX3_bestPass 74 = .ok (.iload 4, 2) := by decide +kernel
theorem dX3_bestPass_76 : decode cX3_bestPass 76 = .ok (.dup2, 1) := by decide +kernel
theorem dX3_bestPass_77 : decode cX3_bestPass 77 = .ok (.iaload, 1) := by decide +kernel
theorem dX3_bestPass_78 : decode cX3_bestPass 78 = .ok (.iconst 1, 1) := by decide +kernel
theorem dX3_bestPass_79 : decode cX3_bestPass 79 = .ok (.iload 5, 2) := by decide +kernel
theorem dX3_bestPass_81 : decode cX3_bestPass 81 = .ok (.ishl, 1) := by decide +kernel
theorem dX3_bestPass_82 : decode cX3_bestPass 82 = .ok (.ior, 1) := by decide +kernel
theorem dX3_bestPass_83 : decode cX3_bestPass 83 = .ok (.iastore, 1) := by decide +kernel
theorem dX3_bestPass_84 : decode cX3_bestPass 84 = .ok (.aload_n 0, 1) := by decide +kernel
theorem dX3_bestPass_85 : decode cX3_bestPass 85 = .ok (.getfield 31, 3) := by decide +kernel
theorem dX3_bestPass_88 : decode cX3_bestPass 88 = .ok (.iload 5, 2) := by decide +kernel
theorem dX3_bestPass_90 : decode cX3_bestPass 90 = .ok (.dup2, 1) := by decide +kernel
theorem dX3_bestPass_91 : decode cX3_bestPass 91 = .ok (.iaload, 1) := by decide +kernel
theorem dX3_bestPass_92 : decode cX3_bestPass 92 = .ok (.iconst 1, 1) := by decide +kernel
theorem dX3_bestPass_93 : decode cX3_bestPass 93 = .ok (.iload 4, 2) := by decide +kernel
theorem dX3_bestPass_95 : decode cX3_bestPass 95 = .ok (.ishl, 1) := by decide +kernel
theorem dX3_bestPass_96 : decode cX3_bestPass 96 = .ok (.ior, 1) := by decide +kernel
theorem dX3_bestPass_97 : decode cX3_bestPass 97 = .ok (.iastore, 1) := by decide +kernel
theorem dX3_bestPass_98 : decode cX3_bestPass 98 = .ok (.aload_n 0, 1) := by decide +kernel
theorem dX3_bestPass_99 : decode cX3_bestPass 99 = .ok (.iload_n 1, 1) := by decide +kernel
theorem dX3_bestPass_100 : decode cX3_bestPass 100 = .ok (.invokevirtual 139, 3) := by decide +kernel
theorem dX3_bestPass_103 : decode cX3_bestPass 103 = .ok (.istore 6, 2) := by decide +kernel
theorem dX3_bestPass_105 : decode cX3_bestPass 105 = .ok (.aload_n 0, 1) := by decide +kernel
theorem dX3_bestPass_106 : decode cX3_bestPass 106 = .ok (.getfield 31, 3) := by decide +kernel
theorem dX3_bestPass_109 : decode cX3_bestPass 109 = .ok (.iload 4, 2) := by decide +kernel
theorem dX3_bestPass_111 : decode cX3_bestPass 111 = .ok (.dup2, 1) := by decide +kernel
theorem dX3_bestPass_112 : decode cX3_bestPass 112 = .ok (.iaload, 1) := by decide +kernel
theorem dX3_bestPass_113 : decode cX3_bestPass 113 = .ok (.iconst 1, 1) := by decide +kernel
theorem dX3_bestPass_114 : decode cX3_bestPass 114 = .ok (.iload 5, 2) := by decide +kernel
theorem dX3_bestPass_116 : decode cX3_bestPass 116 = .ok (.ishl, 1) := by decide +kernel
theorem dX3_bestPass_117 : decode cX3_bestPass 117 = .ok (.iconst (-1), 1) := by decide +kernel
theorem dX3_bestPass_118 : decode cX3_bestPass 118 = .ok (.ixor, 1) := by decide +kernel
theorem dX3_bestPass_119 : decode cX3_bestPass 119 = .ok (.iand, 1) := by decide +kernel
theorem dX3_bestPass_120 : decode cX3_bestPass 120 = .ok (.iastore, 1) := by decide +kernel
theorem dX3_bestPass_121 : decode cX3_bestPass 121 = .ok (.aload_n 0, 1) := by decide +kernel
theorem dX3_bestPass_122 : decode cX3_bestPass 122 = .ok (.getfield 31, 3) := by decide +kernel
theorem dX3_bestPass_125 : decode cX3_bestPass 125 = .ok (.iload 5, 2) := by decide +kernel
theorem dX3_bestPass_127 : decode cX3_bestPass 127 = .ok (.dup2, 1) := by decide +kernel
theorem dX3_bestPass_128 : decode cX3_bestPass 128 = .ok (.iaload, 1) := by decide +kernel
theorem dX3_bestPass_129 : decode cX3_bestPass 129 = .ok (.iconst 1, 1) := by decide +kernel
theorem dX3_bestPass_130 : decode cX3_bestPass 130 = .ok (.iload 4, 2) := by decide +kernel
theorem dX3_bestPass_132 : decode cX3_bestPass 132 = .ok (.ishl, 1) := by decide +kernel
theorem dX3_bestPass_133 : decode cX3_bestPass 133 = .ok (.iconst (-1), 1) := by decide +kernel
theorem dX3_bestPass_134 : decode cX3_bestPass 134 = .ok (.ixor, 1) := by decide +kernel
theorem dX3_bestPass_135 : decode cX3_bestPass 135 = .ok (.iand, 1) := by decide +kernel
theorem dX3_bestPass_136 : decode cX3_bestPass 136 = .ok (.iastore, 1) := by decide +kernel
theorem dX3_bestPass_137 : decode cX3_bestPass 137 = .ok (.iload 6, 2) := by decide +kernel
theorem dX3_bestPass_139 : decode cX3_bestPass 139 = .ok (.iload_n 3, 1) := by decide +kernel
theorem dX3_bestPass_140 : decode cX3_bestPass 140 = .ok (.if_icmp .gt 6, 3) := by decide +kernel
theorem dX3_bestPass_143 : decode cX3_bestPass 143 = .ok (.goto 15, 3) := by decide +kernel
theorem dX3_bestPass_146 : decode cX3_bestPass 146 = .ok (.bipush 6, 2) := by decide +kernel
theorem dX3_bestPass_148 : decode cX3_bestPass 148 = .ok (.iload 4, 2) := by decide +kernel
theorem dX3_bestPass_150 : decode cX3_bestPass 150 = .ok (.imul, 1) := by decide +kernel
theorem dX3_bestPass_151 : decode cX3_bestPass 151 = .ok (.iload 5, 2) := by decide +kernel
theorem dX3_bestPass_153 : decode cX3_bestPass 153 = .ok (.iadd, 1) := by decide +kernel
theorem dX3_bestPass_154 : decode cX3_bestPass 154 = .ok (.istore_n 2, 1) := by decide +kernel
theorem dX3_bestPass_155 : decode cX3_bestPass 155 = .ok (.iload 6, 2) := by decide +kernel
theorem dX3_bestPass_157 : decode cX3_bestPass 157 = .ok (.istore_n 3, 1) := by decide +kernel
theorem dX3_bestPass_158 : decode cX3_bestPass 158 = .ok (.iinc 5 1, 3) := by decide +kernel
theorem dX3_bestPass_161 : decode cX3_bestPass 161 = .ok (.goto (-116), 3) := by decide +kernel
theorem dX3_bestPass_164 : decode cX3_bestPass 164 = .ok (.iinc 4 1, 3) := by decide +kernel
theorem dX3_bestPass_167 : decode cX3_bestPass 167 = .ok (.goto (-135), 3) := by decide +kernel
theorem dX3_bestPass_170 : decode cX3_bestPass 170 = .ok (.iload_n 2, 1) := by decide +kernel
theorem dX3_bestPass_171 : decode cX3_bestPass 171 = .ok (.ireturn, 1) := by decide +kernel
set_option maxRecDepth 20000 in
theorem ggX3_meanBeasts_X3_many : GoodIn wsX3_meanBeasts wsX3_many := goodIn_r _ [7] (by decide +kernel) (by decide +kernel)
set_option maxRecDepth 20000 in
theorem gX3_meanBeasts_X3_many : GoodIn wsX3_meanBeasts (va_wsS RX3 79 yX3_many wsX3_many) := goodIn_app (goodIn_of _ (by decide +kernel)) ggX3_meanBeasts_X3_many
theorem dX3_meanBeasts_0 : decode cX3_meanBeasts 0 = .ok (.aload_n 0, 1) := by decide +kernel
theorem dX3_meanBeasts_1 : decode cX3_meanBeasts 1 = .ok (.iconst 0, 1) := by decide +kernel
theorem dX3_meanBeasts_2 : decode cX3_meanBeasts 2 = .ok (.putfield 40, 3) := by decide +kernel
theorem dX3_meanBeasts_5 : decode cX3_meanBeasts 5 = .ok (.iconst 0, 1) := by decide +kernel
theorem dX3_meanBeasts_6 : decode cX3_meanBeasts 6 = .ok (.istore_n 1, 1) := by decide +kernel
theorem dX3_meanBeasts_7 : decode cX3_meanBeasts 7 = .ok (.iconst 0, 1) := by decide +kernel
theorem dX3_meanBeasts_8 : decode cX3_meanBeasts 8 = .ok (.istore_n 2, 1) := by decide +kernel
theorem dX3_meanBeasts_9 : decode cX3_meanBeasts 9 = .ok (.iload_n 2, 1) := by decide +kernel
theorem dX3_meanBeasts_10 : decode cX3_meanBeasts 10 = .ok (.aload_n 0, 1) := by decide +kernel
theorem dX3_meanBeasts_11 : decode cX3_meanBeasts 11 = .ok (.getfield 44, 3) := by decide +kernel
theorem dX3_meanBeasts_14 : decode cX3_meanBeasts 14 = .ok (.if_icmp .ge 21, 3) := by decide +kernel
theorem dX3_meanBeasts_17 : decode cX3_meanBeasts 17 = .ok (.iload_n 1, 1) := by decide +kernel
theorem dX3_meanBeasts_18 : decode cX3_meanBeasts 18 = .ok (.aload_n 0, 1) := by decide +kernel
theorem dX3_meanBeasts_19 : decode cX3_meanBeasts 19 = .ok (.getfield 13, 3) := by decide +kernel
theorem dX3_meanBeasts_22 : decode cX3_meanBeasts 22 = .ok (.iload_n 2, 1) := by decide +kernel
theorem dX3_meanBeasts_23 : decode cX3_meanBeasts 23 = .ok (.iaload, 1) := by decide +kernel
theorem dX3_meanBeasts_24 : decode cX3_meanBeasts 24 = .ok (.invokestatic 79, 3) := by decide +kernel
theorem dX3_meanBeasts_27 : decode cX3_meanBeasts 27 = .ok (.iadd, 1) := by decide +kernel
theorem dX3_meanBeasts_28 : decode cX3_meanBeasts 28 = .ok (.istore_n 1, 1) := by decide +kernel
theorem dX3_meanBeasts_29 : decode cX3_meanBeasts 29 = .ok (.iinc 2 1, 3) := by decide +kernel
theorem dX3_meanBeasts_32 : decode cX3_meanBeasts 32 = .ok (.goto (-23), 3) := by decide +kernel
theorem dX3_meanBeasts_35 : decode cX3_meanBeasts 35 = .ok (.aload_n 0, 1) := by decide +kernel
theorem dX3_meanBeasts_36 : decode cX3_meanBeasts 36 = .ok (.getfield 44, 3) := by decide +kernel
theorem dX3_meanBeasts_39 : decode cX3_meanBeasts 39 = .ok (.ifCond .ne 7, 3) := by decide +kernel
theorem dX3_meanBeasts_42 : decode cX3_meanBeasts 42 = .ok (.dconst 0, 1) := by decide +kernel
theorem dX3_meanBeasts_43 : decode cX3_meanBeasts 43 = .ok (.goto 11, 3) := by decide +kernel
theorem dX3_meanBeasts_46 : decode cX3_meanBeasts 46 = .ok (.iload_n 1, 1) := by decide +kernel
theorem dX3_meanBeasts_47 : decode cX3_meanBeasts 47 = .ok (.i2d, 1) := by decide +kernel
theorem dX3_meanBeasts_48 : decode cX3_meanBeasts 48 = .ok (.aload_n 0, 1) := by decide +kernel
theorem dX3_meanBeasts_49 : decode cX3_meanBeasts 49 = .ok (.getfield 44, 3) := by decide +kernel
theorem dX3_meanBeasts_52 : decode cX3_meanBeasts 52 = .ok (.i2d, 1) := by decide +kernel
theorem dX3_meanBeasts_53 : decode cX3_meanBeasts 53 = .ok (.ddiv, 1) := by decide +kernel
theorem dX3_meanBeasts_54 : decode cX3_meanBeasts 54 = .ok (.dreturn, 1) := by decide +kernel
theorem dX3_one_0 : decode cX3_one 0 = .ok (.iload_n 0, 1) := by decide +kernel
theorem dX3_one_1 : decode cX3_one 1 = .ok (.ifCond .eq 7, 3) := by decide +kernel
theorem dX3_one_4 : decode cX3_one 4 = .ok (.iconst 1, 1) := by decide +kernel
theorem dX3_one_5 : decode cX3_one 5 = .ok (.goto 4, 3) := by decide +kernel
theorem dX3_one_8 : decode cX3_one 8 = .ok (.iconst 0, 1) := by decide +kernel
theorem dX3_one_9 : decode cX3_one 9 = .ok (.ireturn, 1) := by decide +kernel
set_option maxRecDepth 20000 in
theorem ggX3_digest_X3_all : GoodIn wsX3_digest wsX3_all := goodIn_r _ [18, 12, 19, 20, 17, 21, 54, 55, 56, 57, 58, 59, 60, 61, 62, 63, 64, 65, 66, 67] (by decide +kernel) (by decide +kernel)
set_option maxRecDepth 20000 in
theorem gX3_digest_X3_all : GoodIn wsX3_digest (wsV RX3 114 RX3 yX3_all wsX3_all) := goodIn_app (goodIn_of _ (by decide +kernel)) ggX3_digest_X3_all
set_option maxRecDepth 20000 in
theorem ggX3_digest_X3_favourite : GoodIn wsX3_digest wsX3_favourite := goodIn_r _ [25, 3, 8, 9, 26, 27, 17, 28, 29, 30, 31, 32, 12, 54, 55, 56, 57, 58, 59, 60, 61, 62, 63, 64, 65, 66, 67] (by decide +kernel) (by decide +kernel)
set_option maxRecDepth 20000 in
theorem gX3_digest_X3_favourite : GoodIn wsX3_digest (wsV RX3 129 RX3 yX3_favourite wsX3_favourite) := goodIn_app (goodIn_of _ (by decide +kernel)) ggX3_digest_X3_favourite
set_option maxRecDepth 20000 in
theorem ggX3_digest_X3_many : GoodIn wsX3_digest wsX3_many := goodIn_r _ [21] (by decide +kernel) (by decide +kernel)
set_option maxRecDepth 20000 in
theorem gX3_digest_X3_many : GoodIn wsX3_digest (va_wsS RX3 79 yX3_many wsX3_many) := goodIn_app (goodIn_of _ (by decide +kernel)) ggX3_digest_X3_many
set_option maxRecDepth 20000 in
theorem ggX3_digest_X3_children : GoodIn wsX3_digest wsX3_children := goodIn_r _ [36, 3, 11, 54, 55, 56, 57, 58, 59, 60, 61, 62, 63, 64, 65, 66, 67] (by decide +kernel) (by decide +kernel)
set_option maxRecDepth 20000 in
theorem gX3_digest_X3_children : GoodIn wsX3_digest (wsV RX3 76 RX3 yX3_children wsX3_children) := goodIn_app (goodIn_of _ (by decide +kernel)) ggX3_digest_X3_children
set_option maxRecDepth 20000 in
theorem ggX3_digest_X3_placesOf : GoodIn wsX3_digest wsX3_placesOf := goodIn_r _ [32, 12, 26, 27, 17, 28, 54, 55, 56, 57, 58, 59, 60, 61, 62, 63, 64, 65, 66, 67] (by decide +kernel) (by decide +kernel)
set_option maxRecDepth 20000 in
theorem gX3_digest_X3_placesOf : GoodIn wsX3_digest (wsV RX3 91 RX3 yX3_placesOf wsX3_placesOf) := goodIn_app (goodIn_of _ (by decide +kernel)) ggX3_digest_X3_placesOf
set_option maxRecDepth 20000 in
theorem ggX3_digest_X3_has : GoodIn wsX3_digest wsX3_has := goodIn_r _ [28] (by decide +kernel) (by decide +kernel)
set_option maxRecDepth 20000 in
theorem gX3_digest_X3_has : GoodIn wsX3_digest (va_wsS RX3 51 yX3_has wsX3_has) := goodIn_app (goodIn_of _ (by decide +kernel)) ggX3_digest_X3_has
set_option maxRecDepth 20000 in
theorem ggX3_digest_X3_one : GoodIn wsX3_digest wsX3_one := goodIn_r _ [39] (by decide +kernel) (by decide +kernel)
set_option maxRecDepth 20000 in
theorem gX3_digest_X3_one : GoodIn wsX3_digest (va_wsS RX3 146 yX3_one wsX3_one) := goodIn_app (goodIn_of _ (by decide +kernel)) ggX3_digest_X3_one
set_option maxRecDepth 20000 in
theorem ggX3_digest_X3_banned : GoodIn wsX3_digest wsX3_banned := goodIn_r _ [43, 44, 8, 45, 9, 26, 27, 17, 28, 54, 55, 56, 57, 58, 59, 60, 61, 62, 63, 64, 65, 66, 67] (by decide +kernel) (by decide +kernel)
set_option maxRecDepth 20000 in
theorem gX3_digest_X3_banned : GoodIn wsX3_digest (wsV RX3 88 RX3 yX3_banned wsX3_banned) := goodIn_app (goodIn_of _ (by decide +kernel)) ggX3_digest_X3_banned
set_option maxRecDepth 20000 in
theorem ggX3_digest_X3_allowed : GoodIn wsX3_digest wsX3_allowed := goodIn_r _ [49, 3, 40, 41, 42, 17, 43, 44, 8, 45, 9, 26, 27, 28, 54, 55, 56, 57, 58, 59, 60, 61, 62, 63, 64, 65, 66, 67] (by decide +kernel) (by decide +kernel)
set_option maxRecDepth 20000 in
theorem gX3_digest_X3_allowed : GoodIn wsX3_digest (wsV RX3 123 RX3 yX3_allowed wsX3_allowed) := goodIn_app (goodIn_of _ (by decide +kernel)) ggX3_digest_X3_allowed
set_option maxRecDepth 20000 in
theorem ggX3_digest_X3_bansIn : GoodIn wsX3_digest wsX3_bansIn := goodIn_r _ [53, 44, 45, 19, 20, 17, 21, 54, 55, 56, 57, 58, 59, 60, 61, 62, 63, 64, 65, 66, 67] (by decide +kernel) (by decide +kernel)
set_option maxRecDepth 20000 in
theorem gX3_digest_X3_bansIn : GoodIn wsX3_digest (wsV RX3 126 RX3 yX3_bansIn wsX3_bansIn) := goodIn_app (goodIn_of _ (by decide +kernel)) ggX3_digest_X3_bansIn
theorem dX3_digest_0 : decode cX3_digest 0 = .ok (.aload_n 0, 1) := by decide +kernel
theorem dX3_digest_1 : decode cX3_digest 1 = .ok (.iconst 0, 1) := by decide +kernel
theorem dX3_digest_2 : decode cX3_digest 2 = .ok (.putfield 40, 3) := by decide +kernel
theorem dX3_digest_5 : decode cX3_digest 5 = .ok (.bipush 6, 2) := by decide +kernel
theorem dX3_digest_7 : decode cX3_digest 7 = .ok (.newarray .int, 2) := by decide +kernel
theorem dX3_digest_9 : decode cX3_digest 9 = .ok (.dup, 1) := by decide +kernel
theorem dX3_digest_10 : decode cX3_digest 10 = .ok (.iconst 0, 1) := by decide +kernel
theorem dX3_digest_11 : decode cX3_digest 11 = .ok (.aload_n 0, 1) := by decide +kernel
theorem dX3_digest_12 : decode cX3_digest 12 = .ok (.getfield 44, 3) := by decide +kernel
theorem dX3_digest_15 : decode cX3_digest 15 = .ok (.iastore, 1) := by decide +kernel
theorem dX3_digest_16 : decode cX3_digest 16 = .ok (.dup, 1) := by decide +kernel
theorem dX3_digest_17 : decode cX3_digest 17 = .ok (.iconst 1, 1) := by decide +kernel
theorem dX3_digest_18 : decode cX3_digest 18 = .ok (.aload_n 0, 1) := by decide +kernel
theorem dX3_digest_19 : decode cX3_digest 19 = .ok (.getfield 111, 3) := by decide +kernel
theorem dX3_digest_22 : decode cX3_digest 22 = .ok (.iastore, 1) := by decide +kernel
theorem dX3_digest_23 : decode cX3_digest 23 = .ok (.dup, 1) := by decide +kernel
theorem dX3_digest_24 : decode cX3_digest 24 = .ok (.iconst 2, 1) := by decide +kernel
theorem dX3_digest_25 : decode cX3_digest 25 = .ok (.aload_n 0, 1) := by decide +kernel
theorem dX3_digest_26 : decode cX3_digest 26 = .ok (.invokevirtual 114, 3) := by decide +kernel
theorem dX3_digest_29 : decode cX3_digest 29 = .ok (.iastore, 1) := by decide +kernel
theorem dX3_digest_30 : decode cX3_digest 30 = .ok (.dup, 1) := by decide +kernel
theorem dX3_digest_31 : decode cX3_digest 31 = .ok (.iconst 3, 1) := by decide +kernel
theorem dX3_digest_32 : decode cX3_digest 32 = .ok (.aload_n 0, 1) := by decide +kernel
theorem dX3_digest_33 : decode cX3_digest 33 = .ok (.getfield 104, 3) := by decide +kernel
theorem dX3_digest_36 : decode cX3_digest 36 = .ok (.iastore, 1) := by decide +kernel
theorem dX3_digest_37 : decode cX3_digest 37 = .ok (.dup, 1) := by decide +kernel
theorem dX3_digest_38 : decode cX3_digest 38 = .ok (.iconst 4, 1) := by decide +kernel
theorem dX3_digest_39 : decode cX3_digest 39 = .ok (.aload_n 0, 1) := by decide +kernel
theorem dX3_digest_40 : decode cX3_digest 40 = .ok (.iconst 1, 1) := by decide +kernel
theorem dX3_digest_41 : decode cX3_digest 41 = .ok (.invokevirtual 129, 3) := by decide +kernel
theorem dX3_digest_44 : decode cX3_digest 44 = .ok (.iastore, 1) := by decide +kernel
theorem dX3_digest_45 : decode cX3_digest 45 = .ok (.dup, 1) := by decide +kernel
theorem dX3_digest_46 : decode cX3_digest 46 = .ok (.iconst 5, 1) := by decide +kernel
theorem dX3_digest_47 : decode cX3_digest 47 = .ok (.aload_n 0, 1) := by decide +kernel
theorem dX3_digest_48 : decode cX3_digest 48 = .ok (.iconst 0, 1) := by decide +kernel
theorem dX3_digest_49 : decode cX3_digest 49 = .ok (.invokevirtual 129, 3) := by decide +kernel
theorem dX3_digest_52 : decode cX3_digest 52 = .ok (.iastore, 1) := by decide +kernel
theorem dX3_digest_53 : decode cX3_digest 53 = .ok (.astore_n 1, 1) := by decide +kernel
theorem dX3_digest_54 : decode cX3_digest 54 = .ok (.ldc2_w 142, 3) := by decide +kernel
theorem dX3_digest_57 : decode cX3_digest 57 = .ok (.lstore_n 2, 1) := by decide +kernel
theorem dX3_digest_58 : decode cX3_digest 58 = .ok (.aload_n 1, 1) := by decide +kernel
theorem dX3_digest_59 : decode cX3_digest 59 = .ok (.astore 4, 2) := by decide +kernel
theorem dX3_digest_61 : decode cX3_digest 61 = .ok (.aload 4, 2) := by decide +kernel
theorem dX3_digest_63 : decode cX3_digest 63 = .ok (.arraylength, 1) := by decide +kernel
theorem dX3_digest_64 : decode cX3_digest 64 = .ok (.istore 5, 2) := by decide +kernel
theorem dX3_digest_66 : decode cX3_digest 66 = .ok (.iconst 0, 1) := by decide +kernel
theorem dX3_digest_67 : decode cX3_digest 67 = .ok (.istore 6, 2) := by decide +kernel
theorem dX3_digest_69 : decode cX3_digest 69 = .ok (.iload 6, 2) := by decide +kernel
theorem dX3_digest_71 : decode cX3_digest 71 = .ok (.iload 5, 2) := by decide +kernel
theorem dX3_digest_73 : decode cX3_digest 73 = .ok (.if_icmp .ge 26, 3) := by decide +kernel
theorem dX3_digest_76 : decode cX3_digest 76 = .ok (.aload 4, 2) := by decide +kernel
theorem dX3_digest_78 : decode cX3_digest 78 = .ok (.iload 6, 2) := by decide +kernel
theorem dX3_digest_80 : decode cX3_digest 80 = .ok (.iaload, 1) := by decide +kernel
theorem dX3_digest_81 : decode cX3_digest 81 = .ok (.istore 7, 2) := by decide +kernel
theorem dX3_digest_83 : decode cX3_digest 83 = .ok (.lload_n 2, 1) := by decide +kernel
theorem dX3_digest_84 : decode cX3_digest 84 = .ok (.ldc2_w 144, 3) := by decide +kernel
theorem dX3_digest_87 : decode cX3_digest 87 = .ok (.lmul, 1) := by decide +kernel
theorem dX3_digest_88 : decode cX3_digest 88 = .ok (.iload 7, 2) := by decide +kernel
theorem dX3_digest_90 : decode cX3_digest 90 = .ok (.i2l, 1) := by decide +kernel
theorem dX3_digest_91 : decode cX3_digest 91 = .ok (.ladd, 1) := by decide +kernel
theorem dX3_digest_92 : decode cX3_digest 92 = .ok (.lstore_n 2, 1) := by decide +kernel
theorem dX3_digest_93 : decode cX3_digest 93 = .ok (.iinc 6 1, 3) := by decide +kernel
theorem dX3_digest_96 : decode cX3_digest 96 = .ok (.goto (-27), 3) := by decide +kernel
theorem dX3_digest_99 : decode cX3_digest 99 = .ok (.iconst 0, 1) := by decide +kernel
theorem dX3_digest_100 : decode cX3_digest 100 = .ok (.istore 4, 2) := by decide +kernel
theorem dX3_digest_102 : decode cX3_digest 102 = .ok (.iload 4, 2) := by decide +kernel
theorem dX3_digest_104 : decode cX3_digest 104 = .ok (.aload_n 0, 1) := by decide +kernel
theorem dX3_digest_105 : decode cX3_digest 105 = .ok (.getfield 44, 3) := by decide +kernel
theorem dX3_digest_108 : decode cX3_digest 108 = .ok (.if_icmp .ge 231, 3) := by decide +kernel
theorem dX3_digest_111 : decode cX3_digest 111 = .ok (.bipush 6, 2) := by decide +kernel
theorem dX3_digest_113 : decode cX3_digest 113 = .ok (.newarray .int, 2) := by decide +kernel
theorem dX3_digest_115 : decode cX3_digest 115 = .ok (.dup, 1) := by decide +kernel
theorem dX3_digest_116 : decode cX3_digest 116 = .ok (.iconst 0, 1) := by decide +kernel
theorem dX3_digest_117 : decode cX3_digest 117 = .ok (.aload_n 0, 1) := by decide +kernel
theorem dX3_digest_118 : decode cX3_digest 118 = .ok (.getfield 9, 3) := by decide +kernel
theorem dX3_digest_121 : decode cX3_digest 121 = .ok (.iload 4, 2) := by decide +kernel
theorem dX3_digest_123 : decode cX3_digest 123 = .ok (.iaload, 1) := by decide +kernel
theorem dX3_digest_124 : decode cX3_digest 124 = .ok (.iastore, 1) := by decide +kernel
theorem dX3_digest_125 : decode cX3_digest 125 = .ok (.dup, 1) := by decide +kernel
theorem dX3_digest_126 : decode cX3_digest 126 = .ok (.iconst 1, 1) := by decide +kernel
theorem dX3_digest_127 : decode cX3_digest 127 = .ok (.aload_n 0, 1) := by decide +kernel
theorem dX3_digest_128 : decode cX3_digest 128 = .ok (.getfield 13, 3) := by decide +kernel
theorem dX3_digest_131 : decode cX3_digest 131 = .ok (.iload 4, 2) := by decide +kernel
theorem dX3_digest_133 : decode cX3_digest 133 = .ok (.iaload, 1) := by decide +kernel
theorem dX3_digest_134 : decode cX3_digest 134 = .ok (.invokestatic 79, 3) := by decide +kernel
theorem dX3_digest_137 : decode cX3_digest 137 = .ok (.iastore, 1) := by decide +kernel
theorem dX3_digest_138 : decode cX3_digest 138 = .ok (.dup, 1) := by decide +kernel
theorem dX3_digest_139 : decode cX3_digest 139 = .ok (.iconst 2, 1) := by decide +kernel
theorem dX3_digest_140 : decode cX3_digest 140 = .ok (.aload_n 0, 1) := by decide +kernel
theorem dX3_digest_141 : decode cX3_digest 141 = .ok (.getfield 16, 3) := by decide +kernel
theorem dX3_digest_144 : decode cX3_digest 144 = .ok (.iload 4, 2) := by decide +kernel
theorem dX3_digest_146 : decode cX3_digest 146 = .ok (.iaload, 1) := by decide +kernel
theorem dX3_digest_147 : decode cX3_digest 147 = .ok (.iastore, 1) := by decide +kernel
theorem dX3_digest_148 : decode cX3_digest 148 = .ok (.dup, 1) := by decide +kernel
theorem dX3_digest_149 : decode cX3_digest 149 = .ok (.iconst 3, 1) := by decide +kernel
theorem dX3_digest_150 : decode cX3_digest 150 = .ok (.aload_n 0, 1) := by decide +kernel
theorem dX3_digest_151 : decode cX3_digest 151 = .ok (.getfield 19, 3) := by decide +kernel
theorem dX3_digest_154 : decode cX3_digest 154 = .ok (.iload 4, 2) := by decide +kernel
theorem dX3_digest_156 : decode cX3_digest 156 = .ok (.iaload, 1) := by decide +kernel
theorem dX3_digest_157 : decode cX3_digest 157 = .ok (.iastore, 1) := by decide +kernel
theorem dX3_digest_158 : decode cX3_digest 158 = .ok (.dup, 1) := by decide +kernel
theorem dX3_digest_159 : decode cX3_digest 159 = .ok (.iconst 4, 1) := by decide +kernel
theorem dX3_digest_160 : decode cX3_digest 160 = .ok (.aload_n 0, 1) := by decide +kernel
theorem dX3_digest_161 : decode cX3_digest 161 = .ok (.iload 4, 2) := by decide +kernel
theorem dX3_digest_163 : decode cX3_digest 163 = .ok (.invokevirtual 76, 3) := by decide +kernel
theorem dX3_digest_166 : decode cX3_digest 166 = .ok (.iastore, 1) := by decide +kernel
theorem dX3_digest_167 : decode cX3_digest 167 = .ok (.dup, 1) := by decide +kernel
theorem dX3_digest_168 : decode cX3_digest 168 = .ok (.iconst 5, 1) := by decide +kernel
theorem dX3_digest_169 : decode cX3_digest 169 = .ok (.aload_n 0, 1) := by decide +kernel
theorem dX3_digest_170 : decode cX3_digest 170 = .ok (.iload 4, 2) := by decide +kernel
theorem dX3_digest_172 : decode cX3_digest 172 = .ok (.invokevirtual 91, 3) := by decide +kernel
theorem dX3_digest_175 : decode cX3_digest 175 = .ok (.iastore, 1) := by decide +kernel
theorem dX3_digest_176 : decode cX3_digest 176 = .ok (.astore 5, 2) := by decide +kernel
theorem dX3_digest_178 : decode cX3_digest 178 = .ok (.aload 5, 2) := by decide +kernel
theorem dX3_digest_180 : decode cX3_digest 180 = .ok (.astore 6, 2) := by decide +kernel
theorem dX3_digest_182 : decode cX3_digest 182 = .ok (.aload 6, 2) := by decide +kernel
theorem dX3_digest_184 : decode cX3_digest 184 = .ok (.arraylength, 1) := by decide +kernel
theorem dX3_digest_185 : decode cX3_digest 185 = .ok (.istore 7, 2) := by decide +kernel
theorem dX3_digest_187 : decode cX3_digest 187 = .ok (.iconst 0, 1) := by decide +kernel
theorem dX3_digest_188 : decode cX3_digest 188 = .ok (.istore 8, 2) := by decide +kernel
theorem dX3_digest_190 : decode cX3_digest 190 = .ok (.iload 8, 2) := by decide +kernel
theorem dX3_digest_192 : decode cX3_digest 192 = .ok (.iload 7, 2) := by decide +kernel
theorem dX3_digest_194 : decode cX3_digest 194 = .ok (.if_icmp .ge 26, 3) := by decide +kernel
theorem dX3_digest_197 : decode cX3_digest 197 = .ok (.aload 6, 2) := by decide +kernel
theorem dX3_digest_199 : decode cX3_digest 199 = .ok (.iload 8, 2) := by decide +kernel
theorem dX3_digest_201 : decode cX3_digest 201 = .ok (.iaload, 1) := by decide +kernel
theorem dX3_digest_202 : decode cX3_digest 202 = .ok (.istore 9, 2) := by decide +kernel
theorem dX3_digest_204 : decode cX3_digest 204 = .ok (.lload_n 2, 1) := by decide +kernel
theorem dX3_digest_205 : decode cX3_digest 205 = .ok (.ldc2_w 144, 3) := by decide +kernel
theorem dX3_digest_208 : decode cX3_digest 208 = .ok (.lmul, 1) := by decide +kernel
theorem dX3_digest_209 : decode cX3_digest 209 = .ok (.iload 9, 2) := by decide +kernel
theorem dX3_digest_211 : decode cX3_digest 211 = .ok (.i2l, 1) := by decide +kernel
theorem dX3_digest_212 : decode cX3_digest 212 = .ok (.ladd, 1) := by decide +kernel
theorem dX3_digest_213 : decode cX3_digest 213 = .ok (.lstore_n 2, 1) := by decide +kernel
theorem dX3_digest_214 : decode cX3_digest 214 = .ok (.iinc 8 1, 3) := by decide +kernel
theorem dX3_digest_217 : decode cX3_digest 217 = .ok (.goto (-27), 3) := by decide +kernel
theorem dX3_digest_220 : decode cX3_digest 220 = .ok (.iconst 0, 1) := by decide +kernel
theorem dX3_digest_221 : decode cX3_digest 221 = .ok (.istore 6, 2) := by decide +kernel
theorem dX3_digest_223 : decode cX3_digest 223 = .ok (.iload 6, 2) := by decide +kernel
theorem dX3_digest_225 : decode cX3_digest 225 = .ok (.bipush 12, 2) := by decide +kernel
theorem dX3_digest_227 : decode cX3_digest 227 = .ok (.if_icmp .ge 32, 3) := by decide +kernel
theorem dX3_digest_230 : decode cX3_digest 230 = .ok (.lload_n 2, 1) := by decide +kernel
theorem dX3_digest_231 : decode cX3_digest 231 = .ok (.ldc2_w 144, 3) := by decide +kernel
theorem dX3_digest_234 : decode cX3_digest 234 = .ok (.lmul, 1) := by decide +kernel
theorem dX3_digest_235 : decode cX3_digest 235 = .ok (.aload_n 0, 1) := by decide +kernel
theorem dX3_digest_236 : decode cX3_digest 236 = .ok (.getfield 13, 3) := by decide +kernel
theorem dX3_digest_239 : decode cX3_digest 239 = .ok (.iload 4, 2) := by decide +kernel
theorem dX3_digest_241 : decode cX3_digest 241 = .ok (.iaload, 1) := by decide +kernel
theorem dX3_digest_242 : decode cX3_digest 242 = .ok (.iload 6, 2) := by decide +kernel
theorem dX3_digest_244 : decode cX3_digest 244 = .ok (.invokestatic 51, 3) := by decide +kernel
theorem dX3_digest_247 : decode cX3_digest 247 = .ok (.invokestatic 146, 3) := by decide +kernel
theorem dX3_digest_250 : decode cX3_digest 250 = .ok (.i2l, 1) := by decide +kernel
theorem dX3_digest_251 : decode cX3_digest 251 = .ok (.ladd, 1) := by decide +kernel
theorem dX3_digest_252 : decode cX3_digest 252 = .ok (.lstore_n 2, 1) := by decide +kernel
theorem dX3_digest_253 : decode cX3_digest 253 = .ok (.iinc 6 1, 3) := by decide +kernel
theorem dX3_digest_256 : decode cX3_digest 256 = .ok (.goto (-33), 3) := by decide +kernel
theorem dX3_digest_259 : decode cX3_digest 259 = .ok (.iconst 0, 1) := by decide +kernel
theorem dX3_digest_260 : decode cX3_digest 260 = .ok (.istore 6, 2) := by decide +kernel
theorem dX3_digest_262 : decode cX3_digest 262 = .ok (.iload 6, 2) := by decide +kernel
theorem dX3_digest_264 : decode cX3_digest 264 = .ok (.bipush 6, 2) := by decide +kernel
theorem dX3_digest_266 : decode cX3_digest 266 = .ok (.if_icmp .ge 32, 3) := by decide +kernel
theorem dX3_digest_269 : decode cX3_digest 269 = .ok (.lload_n 2, 1) := by decide +kernel
theorem dX3_digest_270 : decode cX3_digest 270 = .ok (.ldc2_w 144, 3) := by decide +kernel
theorem dX3_digest_273 : decode cX3_digest 273 = .ok (.lmul, 1) := by decide +kernel
theorem dX3_digest_274 : decode cX3_digest 274 = .ok (.aload_n 0, 1) := by decide +kernel
theorem dX3_digest_275 : decode cX3_digest 275 = .ok (.getfield 22, 3) := by decide +kernel
theorem dX3_digest_278 : decode cX3_digest 278 = .ok (.iload 6, 2) := by decide +kernel
theorem dX3_digest_280 : decode cX3_digest 280 = .ok (.iaload, 1) := by decide +kernel
theorem dX3_digest_281 : decode cX3_digest 281 = .ok (.iload 4, 2) := by decide +kernel
theorem dX3_digest_283 : decode cX3_digest 283 = .ok (.invokestatic 51, 3) := by decide +kernel
theorem dX3_digest_286 : decode cX3_digest 286 = .ok (.invokestatic 146, 3) := by decide +kernel
theorem dX3_digest_289 : decode cX3_digest 289 = .ok (.i2l, 1) := by decide +kernel
theorem dX3_digest_290 : decode cX3_digest 290 = .ok (.ladd, 1) := by decide +kernel
theorem dX3_digest_291 : decode cX3_digest 291 = .ok (.lstore_n 2, 1) := by decide +kernel
theorem dX3_digest_292 : decode cX3_digest 292 = .ok (.iinc 6 1, 3) := by decide +kernel
theorem dX3_digest_295 : decode cX3_digest 295 = .ok (.goto (-33), 3) := by decide +kernel
theorem dX3_digest_298 : decode cX3_digest 298 = .ok (.iconst 0, 1) := by decide +kernel
theorem dX3_digest_299 : decode cX3_digest 299 = .ok (.istore 6, 2) := by decide +kernel
theorem dX3_digest_301 : decode cX3_digest 301 = .ok (.iload 6, 2) := by decide +kernel
theorem dX3_digest_303 : decode cX3_digest 303 = .ok (.bipush 6, 2) := by decide +kernel
theorem dX3_digest_305 : decode cX3_digest 305 = .ok (.if_icmp .ge 28, 3) := by decide +kernel
theorem dX3_digest_308 : decode cX3_digest 308 = .ok (.lload_n 2, 1) := by decide +kernel
theorem dX3_digest_309 : decode cX3_digest 309 = .ok (.ldc2_w 144, 3) := by decide +kernel
theorem dX3_digest_312 : decode cX3_digest 312 = .ok (.lmul, 1) := by decide +kernel
theorem dX3_digest_313 : decode cX3_digest 313 = .ok (.aload_n 0, 1) := by decide +kernel
theorem dX3_digest_314 : decode cX3_digest 314 = .ok (.iload 4, 2) := by decide +kernel
theorem dX3_digest_316 : decode cX3_digest 316 = .ok (.iload 6, 2) := by decide +kernel
theorem dX3_digest_318 : decode cX3_digest 318 = .ok (.invokevirtual 88, 3) := by decide +kernel
theorem dX3_digest_321 : decode cX3_digest 321 = .ok (.invokestatic 146, 3) := by decide +kernel
theorem dX3_digest_324 : decode cX3_digest 324 = .ok (.i2l, 1) := by decide +kernel
theorem dX3_digest_325 : decode cX3_digest 325 = .ok (.ladd, 1) := by decide +kernel
theorem dX3_digest_326 : decode cX3_digest 326 = .ok (.lstore_n 2, 1) := by decide +kernel
theorem dX3_digest_327 : decode cX3_digest 327 = .ok (.iinc 6 1, 3) := by decide +kernel
theorem dX3_digest_330 : decode cX3_digest 330 = .ok (.goto (-29), 3) := by decide +kernel
theorem dX3_digest_333 : decode cX3_digest 333 = .ok (.iinc 4 1, 3) := by decide +kernel
theorem dX3_digest_336 : decode cX3_digest 336 = .ok (.goto (-234), 3) := by decide +kernel
theorem dX3_digest_339 : decode cX3_digest 339 = .ok (.iconst 0, 1) := by decide +kernel
theorem dX3_digest_340 : decode cX3_digest 340 = .ok (.istore 4, 2) := by decide +kernel
theorem dX3_digest_342 : decode cX3_digest 342 = .ok (.iload 4, 2) := by decide +kernel
theorem dX3_digest_344 : decode cX3_digest 344 = .ok (.bipush 6, 2) := by decide +kernel
theorem dX3_digest_346 : decode cX3_digest 346 = .ok (.if_icmp .ge 94, 3) := by decide +kernel
theorem dX3_digest_349 : decode cX3_digest 349 = .ok (.lload_n 2, 1) := by decide +kernel
theorem dX3_digest_350 : decode cX3_digest 350 = .ok (.ldc2_w 144, 3) := by decide +kernel
theorem dX3_digest_353 : decode cX3_digest 353 = .ok (.lmul, 1) := by decide +kernel
theorem dX3_digest_354 : decode cX3_digest 354 = .ok (.aload_n 0, 1) := by decide +kernel
theorem dX3_digest_355 : decode cX3_digest 355 = .ok (.getfield 22, 3) := by decide +kernel
theorem dX3_digest_358 : decode cX3_digest 358 = .ok (.iload 4, 2) := by decide +kernel
theorem dX3_digest_360 : decode cX3_digest 360 = .ok (.iaload, 1) := by decide +kernel
theorem dX3_digest_361 : decode cX3_digest 361 = .ok (.invokestatic 79, 3) := by decide +kernel
theorem dX3_digest_364 : decode cX3_digest 364 = .ok (.i2l, 1) := by decide +kernel
theorem dX3_digest_365 : decode cX3_digest 365 = .ok (.ladd, 1) := by decide +kernel
theorem dX3_digest_366 : decode cX3_digest 366 = .ok (.lstore_n 2, 1) := by decide +kernel
theorem dX3_digest_367 : decode cX3_digest 367 = .ok (.lload_n 2, 1) := by decide +kernel
theorem dX3_digest_368 : decode cX3_digest 368 = .ok (.ldc2_w 144, 3) := by decide +kernel
theorem dX3_digest_371 : decode cX3_digest 371 = .ok (.lmul, 1) := by decide +kernel
theorem dX3_digest_372 : decode cX3_digest 372 = .ok (.aload_n 0, 1) := by decide +kernel
theorem dX3_digest_373 : decode cX3_digest 373 = .ok (.iload 4, 2) := by decide +kernel
theorem dX3_digest_375 : decode cX3_digest 375 = .ok (.invokevirtual 123, 3) := by decide +kernel
theorem dX3_digest_378 : decode cX3_digest 378 = .ok (.i2l, 1) := by decide +kernel
theorem dX3_digest_379 : decode cX3_digest 379 = .ok (.ladd, 1) := by decide +kernel
theorem dX3_digest_380 : decode cX3_digest 380 = .ok (.lstore_n 2, 1) := by decide +kernel
theorem dX3_digest_381 : decode cX3_digest 381 = .ok (.lload_n 2, 1) := by decide +kernel
theorem dX3_digest_382 : decode cX3_digest 382 = .ok (.ldc2_w 144, 3) := by decide +kernel
theorem dX3_digest_385 : decode cX3_digest 385 = .ok (.lmul, 1) := by decide +kernel
theorem dX3_digest_386 : decode cX3_digest 386 = .ok (.aload_n 0, 1) := by decide +kernel
theorem dX3_digest_387 : decode cX3_digest 387 = .ok (.iload 4, 2) := by decide +kernel
theorem dX3_digest_389 : decode cX3_digest 389 = .ok (.invokevirtual 126, 3) := by decide +kernel
theorem dX3_digest_392 : decode cX3_digest 392 = .ok (.i2l, 1) := by decide +kernel
theorem dX3_digest_393 : decode cX3_digest 393 = .ok (.ladd, 1) := by decide +kernel
theorem dX3_digest_394 : decode cX3_digest 394 = .ok (.lstore_n 2, 1) := by decide +kernel
theorem dX3_digest_395 : decode cX3_digest 395 = .ok (.iconst 0, 1) := by decide +kernel
theorem dX3_digest_396 : decode cX3_digest 396 = .ok (.istore 5, 2) := by decide +kernel
theorem dX3_digest_398 : decode cX3_digest 398 = .ok (.iload 5, 2) := by decide +kernel
theorem dX3_digest_400 : decode cX3_digest 400 = .ok (.bipush 6, 2) := by decide +kernel
theorem dX3_digest_402 : decode cX3_digest 402 = .ok (.if_icmp .ge 32, 3) := by decide +kernel
theorem dX3_digest_405 : decode cX3_digest 405 = .ok (.lload_n 2, 1) := by decide +kernel
theorem dX3_digest_406 : decode cX3_digest 406 = .ok (.ldc2_w 144, 3) := by decide +kernel
theorem dX3_digest_409 : decode cX3_digest 409 = .ok (.lmul, 1) := by decide +kernel
theorem dX3_digest_410 : decode cX3_digest 410 = .ok (.aload_n 0, 1) := by decide +kernel
theorem dX3_digest_411 : decode cX3_digest 411 = .ok (.getfield 31, 3) := by decide +kernel
theorem dX3_digest_414 : decode cX3_digest 414 = .ok (.iload 4, 2) := by decide +kernel
theorem dX3_digest_416 : decode cX3_digest 416 = .ok (.iaload, 1) := by decide +kernel
theorem dX3_digest_417 : decode cX3_digest 417 = .ok (.iload 5, 2) := by decide +kernel
theorem dX3_digest_419 : decode cX3_digest 419 = .ok (.invokestatic 51, 3) := by decide +kernel
theorem dX3_digest_422 : decode cX3_digest 422 = .ok (.invokestatic 146, 3) := by decide +kernel
theorem dX3_digest_425 : decode cX3_digest 425 = .ok (.i2l, 1) := by decide +kernel
theorem dX3_digest_426 : decode cX3_digest 426 = .ok (.ladd, 1) := by decide +kernel
theorem dX3_digest_427 : decode cX3_digest 427 = .ok (.lstore_n 2, 1) := by decide +kernel
theorem dX3_digest_428 : decode cX3_digest 428 = .ok (.iinc 5 1, 3) := by decide +kernel
theorem dX3_digest_431 : decode cX3_digest 431 = .ok (.goto (-33), 3) := by decide +kernel
theorem dX3_digest_434 : decode cX3_digest 434 = .ok (.iinc 4 1, 3) := by decide +kernel
theorem dX3_digest_437 : decode cX3_digest 437 = .ok (.goto (-95), 3) := by decide +kernel
theorem dX3_digest_440 : decode cX3_digest 440 = .ok (.lload_n 2, 1) := by decide +kernel
theorem dX3_digest_441 : decode cX3_digest 441 = .ok (.lreturn, 1) := by decide +kernel
theorem dJ6_bitCount_0f7a4_0 : decode cJ6_bitCount_0f7a4 0 = .ok (.iload_n 0, 1) := by decide +kernel
theorem dJ6_bitCount_0f7a4_1 : decode cJ6_bitCount_0f7a4 1 = .ok (.iload_n 0, 1) := by decide +kernel
theorem dJ6_bitCount_0f7a4_2 : decode cJ6_bitCount_0f7a4 2 = .ok (.iconst 1, 1) := by decide +kernel
theorem dJ6_bitCount_0f7a4_3 : decode cJ6_bitCount_0f7a4 3 = .ok (.iushr, 1) := by decide +kernel
theorem dJ6_bitCount_0f7a4_4 : decode cJ6_bitCount_0f7a4 4 = .ok (.ldc_w 265, 3) := by decide +kernel
theorem dJ6_bitCount_0f7a4_7 : decode cJ6_bitCount_0f7a4 7 = .ok (.iand, 1) := by decide +kernel
theorem dJ6_bitCount_0f7a4_8 : decode cJ6_bitCount_0f7a4 8 = .ok (.isub, 1) := by decide +kernel
theorem dJ6_bitCount_0f7a4_9 : decode cJ6_bitCount_0f7a4 9 = .ok (.istore_n 0, 1) := by decide +kernel
theorem dJ6_bitCount_0f7a4_10 : decode cJ6_bitCount_0f7a4 10 = .ok (.iload_n 0, 1) := by decide +kernel
theorem dJ6_bitCount_0f7a4_11 : decode cJ6_bitCount_0f7a4 11 = .ok (.ldc_w 266, 3) := by decide +kernel
theorem dJ6_bitCount_0f7a4_14 : decode cJ6_bitCount_0f7a4 14 = .ok (.iand, 1) := by decide +kernel
theorem dJ6_bitCount_0f7a4_15 : decode cJ6_bitCount_0f7a4 15 = .ok (.iload_n 0, 1) := by decide +kernel
theorem dJ6_bitCount_0f7a4_16 : decode cJ6_bitCount_0f7a4 16 = .ok (.iconst 2, 1) := by decide +kernel
theorem dJ6_bitCount_0f7a4_17 : decode cJ6_bitCount_0f7a4 17 = .ok (.iushr, 1) := by decide +kernel
theorem dJ6_bitCount_0f7a4_18 : decode cJ6_bitCount_0f7a4 18 = .ok (.ldc_w 266, 3) := by decide +kernel
theorem dJ6_bitCount_0f7a4_21 : decode cJ6_bitCount_0f7a4 21 = .ok (.iand, 1) := by decide +kernel
theorem dJ6_bitCount_0f7a4_22 : decode cJ6_bitCount_0f7a4 22 = .ok (.iadd, 1) := by decide +kernel
theorem dJ6_bitCount_0f7a4_23 : decode cJ6_bitCount_0f7a4 23 = .ok (.istore_n 0, 1) := by decide +kernel
theorem dJ6_bitCount_0f7a4_24 : decode cJ6_bitCount_0f7a4 24 = .ok (.iload_n 0, 1) := by decide +kernel
theorem dJ6_bitCount_0f7a4_25 : decode cJ6_bitCount_0f7a4 25 = .ok (.iload_n 0, 1) := by decide +kernel
theorem dJ6_bitCount_0f7a4_26 : decode cJ6_bitCount_0f7a4 26 = .ok (.iconst 4, 1) := by decide +kernel
theorem dJ6_bitCount_0f7a4_27 : decode cJ6_bitCount_0f7a4 27 = .ok (.iushr, 1) := by decide +kernel
theorem dJ6_bitCount_0f7a4_28 : decode cJ6_bitCount_0f7a4 28 = .ok (.iadd, 1) := by decide +kernel
theorem dJ6_bitCount_0f7a4_29 : decode cJ6_bitCount_0f7a4 29 = .ok (.ldc_w 267, 3) := by decide +kernel
theorem dJ6_bitCount_0f7a4_32 : decode cJ6_bitCount_0f7a4 32 = .ok (.iand, 1) := by decide +kernel
theorem dJ6_bitCount_0f7a4_33 : decode cJ6_bitCount_0f7a4 33 = .ok (.istore_n 0, 1) := by decide +kernel
theorem dJ6_bitCount_0f7a4_34 : decode cJ6_bitCount_0f7a4 34 = .ok (.iload_n 0, 1) := by decide +kernel
theorem dJ6_bitCount_0f7a4_35 : decode cJ6_bitCount_0f7a4 35 = .ok (.iload_n 0, 1) := by decide +kernel
theorem dJ6_bitCount_0f7a4_36 : decode cJ6_bitCount_0f7a4 36 = .ok (.bipush 8, 2) := by decide +kernel
theorem dJ6_bitCount_0f7a4_38 : decode cJ6_bitCount_0f7a4 38 = .ok (.iushr, 1) := by decide +kernel
theorem dJ6_bitCount_0f7a4_39 : decode cJ6_bitCount_0f7a4 39 = .ok (.iadd, 1) := by decide +kernel
theorem dJ6_bitCount_0f7a4_40 : decode cJ6_bitCount_0f7a4 40 = .ok (.istore_n 0, 1) := by decide +kernel
theorem dJ6_bitCount_0f7a4_41 : decode cJ6_bitCount_0f7a4 41 = .ok (.iload_n 0, 1) := by decide +kernel
theorem dJ6_bitCount_0f7a4_42 : decode cJ6_bitCount_0f7a4 42 = .ok (.iload_n 0, 1) := by decide +kernel
theorem dJ6_bitCount_0f7a4_43 : decode cJ6_bitCount_0f7a4 43 = .ok (.bipush 16, 2) := by decide +kernel
theorem dJ6_bitCount_0f7a4_45 : decode cJ6_bitCount_0f7a4 45 = .ok (.iushr, 1) := by decide +kernel
theorem dJ6_bitCount_0f7a4_46 : decode cJ6_bitCount_0f7a4 46 = .ok (.iadd, 1) := by decide +kernel
theorem dJ6_bitCount_0f7a4_47 : decode cJ6_bitCount_0f7a4 47 = .ok (.istore_n 0, 1) := by decide +kernel
theorem dJ6_bitCount_0f7a4_48 : decode cJ6_bitCount_0f7a4 48 = .ok (.iload_n 0, 1) := by decide +kernel
theorem dJ6_bitCount_0f7a4_49 : decode cJ6_bitCount_0f7a4 49 = .ok (.bipush 63, 2) := by decide +kernel
theorem dJ6_bitCount_0f7a4_51 : decode cJ6_bitCount_0f7a4 51 = .ok (.iand, 1) := by decide +kernel
theorem dJ6_bitCount_0f7a4_52 : decode cJ6_bitCount_0f7a4 52 = .ok (.ireturn, 1) := by decide +kernel
end
section
/-! ===== how many places have a property ===== -/
def fb_ct (p : Nat → Bool) : Nat → Nat
  | 0 => 0
  | n + 1 => fb_ct p n + (if p n then 1 else 0)
theorem fb_ct_succ (p : Nat → Bool) (n : Nat) : fb_ct p (n + 1) = fb_ct p n + (if p n then 1 else 0) := rfl
theorem fb_ct_le (p : Nat → Bool) : ∀ n, fb_ct p n ≤ n
  | 0 => Nat.le_refl _
  | n + 1 => by
    have h := fb_ct_le p n
    rw [fb_ct_succ]
    split <;> omega
theorem fb_ct_step (p : Nat → Bool) (m : Nat) : ∀ n, fb_ct p m ≤ fb_ct p (m + n)
  | 0 => Nat.le_refl _
  | n + 1 => by
    have h := fb_ct_step p m n
    show fb_ct p m ≤ fb_ct p (m + n + 1)
    rw [fb_ct_succ]
    omega
theorem fb_ct_mono (p : Nat → Bool) {m n : Nat} (h : m ≤ n) : fb_ct p m ≤ fb_ct p n := by
  have := fb_ct_step p m (n - m)
  rwa [Nat.add_sub_cancel' h] at this
theorem fb_ct_cong {p q : Nat → Bool} : ∀ {n : Nat}, (∀ k, k < n → p k = q k) → fb_ct p n = fb_ct q n
  | 0, _ => rfl
  | n + 1, h => by
    rw [fb_ct_succ, fb_ct_succ, fb_ct_cong (fun k hk => h k (by omega)), h n (by omega)]
/-- one place changed -/
theorem fb_ct_out (p : Nat → Bool) (b : Bool) {i n : Nat} (h : n ≤ i) : fb_ct (fun k => if k = i then b else p k) n = fb_ct p n :=
  fb_ct_cong fun k hk => if_neg (by omega)
theorem fb_ct_upd (p : Nat → Bool) (b : Bool) {i : Nat} : ∀ {n : Nat}, i < n → fb_ct (fun k => if k = i then b else p k) n + (if p i then 1 else 0) = fb_ct p n + (if b then 1 else 0)
  | 0, h => absurd h (Nat.not_lt_zero i)
  | n + 1, h => by
    rw [fb_ct_succ, fb_ct_succ]
    rcases Nat.lt_or_ge i n with q | q
    · have := fb_ct_upd p b q
      have e : (if n = i then b else p n) = p n := if_neg (by omega)
      rw [e]
      omega
    · have e : i = n := by omega
      subst e
      rw [fb_ct_out p b (Nat.le_refl _)]
      simp only [if_true]
      omega
theorem fb_ct_sub {p q : Nat → Bool} : ∀ {n : Nat}, (∀ k, k < n → p k = true → q k = true) → fb_ct p n ≤ fb_ct q n
  | 0, _ => Nat.le_refl _
  | n + 1, h => by
    have h1 := fb_ct_sub (n := n) (p := p) (q := q) (fun k hk => h k (by omega))
    have h2 := h n (by omega)
    rw [fb_ct_succ, fb_ct_succ]
    cases hp : p n <;> cases hq : q n <;> simp_all <;> omega
theorem fb_ct_or {p q : Nat → Bool} : ∀ {n : Nat}, (∀ k, k < n → ¬ (p k = true ∧ q k = true)) → fb_ct (fun k => p k || q k) n = fb_ct p n + fb_ct q n
  | 0, _ => rfl
  | n + 1, h => by
    have h1 := fb_ct_or (n := n) (p := p) (q := q) (fun k hk => h k (by omega))
    have h2 := h n (by omega)
    rw [fb_ct_succ, fb_ct_succ, fb_ct_succ, h1]
    cases hp : p n <;> cases hq : q n <;> simp_all <;> omega
theorem fb_ct_not (p : Nat → Bool) : ∀ n, fb_ct p n + fb_ct (fun k => !p k) n = n
  | 0 => rfl
  | n + 1 => by
    have h := fb_ct_not p n
    rw [fb_ct_succ, fb_ct_succ]
    cases p n <;> simp <;> omega
theorem fb_ct_split (p : Nat → Bool) (m : Nat) : ∀ n, fb_ct p (m + n) = fb_ct p m + fb_ct (fun k => p (m + k)) n
  | 0 => rfl
  | n + 1 => by
    have h := fb_ct_split p m n
    show fb_ct p (m + n + 1) = _
    rw [fb_ct_succ, fb_ct_succ, h, Nat.add_assoc]
theorem fb_ct_zero {p : Nat → Bool} : ∀ {n : Nat}, fb_ct p n = 0 ↔ ∀ k, k < n → p k = false
  | 0 => ⟨fun _ k hk => absurd hk (Nat.not_lt_zero k), fun _ => rfl⟩
  | n + 1 => by
    have h := fb_ct_zero (p := p) (n := n)
    rw [fb_ct_succ]
    constructor
    · intro e k hk
      have e1 : fb_ct p n = 0 := by omega
      rcases Nat.lt_or_ge k n with q | q
      · exact h.mp e1 k q
      · have ek : k = n := by omega
        subst ek
        cases hp : p k
        · rfl
        · simp [hp] at e
    · intro a
      rw [h.mpr (fun k hk => a k (by omega)), a n (by omega)]
      rfl
theorem fb_ct_pos {p : Nat → Bool} {n : Nat} : 0 < fb_ct p n ↔ ∃ k, k < n ∧ p k = true := by
  constructor
  · intro h
    refine Classical.byContradiction fun hx => ?_
    have := fb_ct_zero.mpr (fun k hk => by
      cases hp : p k
      · rfl
      · exact absurd ⟨k, hk, hp⟩ hx : ∀ k, k < n → p k = false)
    omega
  · rintro ⟨k, hk, hp⟩
    rcases Nat.eq_zero_or_pos (fb_ct p n) with e | e
    · have := fb_ct_zero.mp e k hk
      rw [this] at hp
      cases hp
    · exact e
theorem fb_ct_all {p : Nat → Bool} {n : Nat} : fb_ct p n = n ↔ ∀ k, k < n → p k = true := by
  have h := fb_ct_not p n
  constructor
  · intro e k hk
    have z : fb_ct (fun k => !p k) n = 0 := by omega
    have := fb_ct_zero.mp z k hk
    cases hp : p k
    · simp [hp] at this
    · rfl
  · intro a
    have z : fb_ct (fun k => !p k) n = 0 := fb_ct_zero.mpr (fun k hk => by simp [a k hk])
    omega
/-- the k-th place with the property -/
theorem fb_ct_kth {p : Nat → Bool} {k : Nat} : ∀ {n : Nat}, k < fb_ct p n → ∃ i, i < n ∧ p i = true ∧ fb_ct p i = k
  | 0, h => absurd h (Nat.not_lt_zero k)
  | n + 1, h => by
    rcases Nat.lt_or_ge k (fb_ct p n) with q | q
    · obtain ⟨i, h1, h2⟩ := fb_ct_kth q
      exact ⟨i, by omega, h2⟩
    · rw [fb_ct_succ] at h
      cases hp : p n
      · simp [hp] at h; omega
      · simp [hp] at h
        exact ⟨n, by omega, hp, by omega⟩
theorem fb_ct_kth_one {p : Nat → Bool} {i j : Nat} (hi : p i = true) (hj : p j = true) (e : fb_ct p i = fb_ct p j) : i = j := by
  have key : ∀ a b : Nat, a < b → p a = true → fb_ct p a < fb_ct p b := by
    intro a b hab ha
    have h := fb_ct_mono p (show a + 1 ≤ b from hab)
    rw [fb_ct_succ, ha] at h
    simp at h
    omega
  rcases Nat.lt_trichotomy i j with q | q | q
  · have := key i j q hi; omega
  · exact q
  · have := key j i q hj; omega
/-! ===== sums over a range: one place changed, parts, bounds ===== -/
def fb_sm (f : Nat → Nat) : Nat → Nat
  | 0 => 0
  | n + 1 => fb_sm f n + f n
theorem fb_sm_succ (f : Nat → Nat) (n : Nat) : fb_sm f (n + 1) = fb_sm f n + f n := rfl
theorem fb_sm_cong {f g : Nat → Nat} : ∀ {n : Nat}, (∀ k, k < n → f k = g k) → fb_sm f n = fb_sm g n
  | 0, _ => rfl
  | n + 1, h => by rw [fb_sm_succ, fb_sm_succ, fb_sm_cong (fun k hk => h k (by omega)), h n (by omega)]
theorem fb_sm_out (f : Nat → Nat) (v : Nat) {i n : Nat} (h : n ≤ i) : fb_sm (fun k => if k = i then v else f k) n = fb_sm f n :=
  fb_sm_cong fun k hk => if_neg (by omega)
theorem fb_sm_upd (f : Nat → Nat) (v : Nat) {i : Nat} : ∀ {n : Nat}, i < n → fb_sm (fun k => if k = i then v else f k) n + f i = fb_sm f n + v
  | 0, h => absurd h (Nat.not_lt_zero i)
  | n + 1, h => by
    rw [fb_sm_succ, fb_sm_succ]
    rcases Nat.lt_or_ge i n with q | q
    · have := fb_sm_upd f v q
      have e : (if n = i then v else f n) = f n := if_neg (by omega)
      rw [e]
      omega
    · have e : i = n := by omega
      subst e
      rw [fb_sm_out f v (Nat.le_refl _)]
      simp only [if_true]
      omega
theorem fb_sm_add (f g : Nat → Nat) : ∀ n, fb_sm (fun k => f k + g k) n = fb_sm f n + fb_sm g n
  | 0 => rfl
  | n + 1 => by
    have h := fb_sm_add f g n
    rw [fb_sm_succ, fb_sm_succ, fb_sm_succ, h]
    omega
theorem fb_sm_le {f g : Nat → Nat} : ∀ {n : Nat}, (∀ k, k < n → f k ≤ g k) → fb_sm f n ≤ fb_sm g n
  | 0, _ => Nat.le_refl _
  | n + 1, h => by
    have h1 := fb_sm_le (n := n) (f := f) (g := g) (fun k hk => h k (by omega))
    have h2 := h n (by omega)
    rw [fb_sm_succ, fb_sm_succ]
    omega
theorem fb_sm_const (c : Nat) : ∀ n, fb_sm (fun _ => c) n = n * c
  | 0 => by rw [Nat.zero_mul]; rfl
  | n + 1 => by rw [fb_sm_succ, fb_sm_const c n, Nat.succ_mul]
theorem fb_sm_bound {f : Nat → Nat} {c n : Nat} (h : ∀ k, k < n → f k ≤ c) : fb_sm f n ≤ n * c := by
  rw [← fb_sm_const c n]
  exact fb_sm_le h
theorem fb_sm_mono (f : Nat → Nat) (m : Nat) : ∀ n, fb_sm f m ≤ fb_sm f (m + n)
  | 0 => Nat.le_refl _
  | n + 1 => by
    have h := fb_sm_mono f m n
    show fb_sm f m ≤ fb_sm f (m + n + 1)
    rw [fb_sm_succ]
    omega
theorem fb_sm_part (f : Nat → Nat) {i n : Nat} (h : i < n) : fb_sm f i + f i ≤ fb_sm f n := by
  have := fb_sm_mono f (i + 1) (n - (i + 1))
  rw [fb_sm_succ, show i + 1 + (n - (i + 1)) = n by omega] at this
  exact this
theorem fb_sm_split (f : Nat → Nat) (m : Nat) : ∀ n, fb_sm f (m + n) = fb_sm f m + fb_sm (fun k => f (m + k)) n
  | 0 => rfl
  | n + 1 => by
    have h := fb_sm_split f m n
    show fb_sm f (m + n + 1) = _
    rw [fb_sm_succ, fb_sm_succ, h, Nat.add_assoc]
theorem fb_sm_zero {f : Nat → Nat} {n : Nat} (h : fb_sm f n = 0) : ∀ k, k < n → f k = 0 := fun k hk => by
  have := fb_sm_part f hk
  omega
/-! what the methods compute, in plain functions -/
/-- the steps 0 .. n-1 of a counted loop -/
def z_fold {σ : Type} (f : Nat → σ → σ) (s0 : σ) : Nat → σ
  | 0 => s0
  | n + 1 => f n (z_fold f s0 n)
theorem z_fold_succ {σ : Type} (f : Nat → σ → σ) (s0 : σ) (n : Nat) : z_fold f s0 (n + 1) = f n (z_fold f s0 n) := rfl
/-- a set has a number -/
def hs (x n : Int32) : Bool := decide (¬ (x >>> (n &&& 31)) &&& 1 = 0)
def bitI (n : Int32) : Int32 := 1 <<< (n &&& 31)
/-- the bits of a number, counted -/
def bi (x : Int32) (i : Nat) : Bool := x.toBitVec.getLsbD i
def pcN (x : Int32) : Nat := fb_ct (bi x) 32
def pc (x : Int32) : Int32 := nI (pcN x)
theorem bc_pc (x : Int32) : True := trivial
def tu (x n : Int32) : Int32 := x ^^^ (1 <<< (n &&& 31))
def sal (x : Int32) : Int32 := x &&& (-x)
def cntS (lt : Nat → Int32) (w : Int32) : Nat → Int32 := z_fold (fun v a => a + pc (lt v &&& w)) 0
def allS (n : Nat) : Int32 := 1 <<< (nI n &&& 31) - 1
def ban (lm lb fm fb : Nat → Int32) (f v : Nat) : Bool := hs (lm v) (fm f) || decide (¬ (lb v &&& fb f) = 0)
end
section
set_option maxRecDepth 100000 in
set_option maxHeartbeats 4000000 in
theorem m_X2_has (l : Launch) (G : Nat → Prop) (D : va_G) (cI cJ : ClassId) (w : Int32) (k : Int32)  : z_M l yX2_has wsX2_has { frames := 0, cells := 0, slots := 0, locals := 0 } G D [(cI, .int), (cJ, .long)] [.int w, .int k] [] (some (.int (z_b (hs w k)))) [] 0 0 := by
  refine z_ofW (cc := cX2_has) (nL := 2) (ret := (some .boolean)) (by decide) rfl (Nat.le_of_ble_eq_true rfl) [] rfl (lv0 := [(0, .int w), (1, .int k)]) rfl ?_
  intro p e s m args below meth c K
  refine z_iload_n K 0 dX2_has_0 rfl ?_
  refine z_iload_n K 1 dX2_has_1 rfl ?_
  refine z_ishr K dX2_has_2 ?_
  refine z_iconst (v := 1) K dX2_has_3 (by decide) ?_
  refine z_iand K dX2_has_4 ?_
  refine z_if_eq K 12 dX2_has_5 (by decide) (fun c5 => ?_) (fun c5 => ?_)
  · refine z_iconst (v := 0) K dX2_has_12 (by decide) ?_
    exact z_zret K dX2_has_13 (by simp [z_b, hs, c5]) [] rfl (by decide) (by decide)
  · refine z_iconst (v := 1) K dX2_has_8 (by decide) ?_
    refine z_goto K 13 dX2_has_9 (by decide) ?_
    exact z_zret K dX2_has_13 (by simp [z_b, hs, c5]) [] rfl (by decide) (by decide)

set_option maxRecDepth 100000 in
set_option maxHeartbeats 4000000 in
theorem m_X2_turned (l : Launch) (G : Nat → Prop) (D : va_G) (cI cJ : ClassId) (w : Int32) (k : Int32)  : z_M l yX2_turned wsX2_turned { frames := 0, cells := 0, slots := 0, locals := 0 } G D [(cI, .int), (cJ, .long)] [.int w, .int k] [] (some (.int (tu w k))) [] 0 0 := by
  refine z_ofW (cc := cX2_turned) (nL := 2) (ret := (some .int)) (by decide) rfl (Nat.le_of_ble_eq_true rfl) [] rfl (lv0 := [(0, .int w), (1, .int k)]) rfl ?_
  intro p e s m args below meth c K
  refine z_iload_n K 0 dX2_turned_0 rfl ?_
  refine z_iconst (v := 1) K dX2_turned_1 (by decide) ?_
  refine z_iload_n K 1 dX2_turned_2 rfl ?_
  refine z_ishl K dX2_turned_3 ?_
  refine z_ixor K dX2_turned_4 ?_
  exact z_iret K dX2_turned_5 (rfl) [] rfl (by decide) (by decide)

set_option maxRecDepth 100000 in
set_option maxHeartbeats 4000000 in
theorem m_X2_smallestAlone (l : Launch) (G : Nat → Prop) (D : va_G) (cI cJ : ClassId) (w : Int32)  : z_M l yX2_smallestAlone wsX2_smallestAlone { frames := 0, cells := 0, slots := 0, locals := 0 } G D [(cI, .int), (cJ, .long)] [.int w] [] (some (.int (sal w))) [] 0 0 := by
  refine z_ofW (cc := cX2_smallestAlone) (nL := 1) (ret := (some .int)) (by decide) rfl (Nat.le_of_ble_eq_true rfl) [] rfl (lv0 := [(0, .int w)]) rfl ?_
  intro p e s m args below meth c K
  refine z_iload_n K 0 dX2_smallestAlone_0 rfl ?_
  refine z_iload_n K 0 dX2_smallestAlone_1 rfl ?_
  refine z_ineg K dX2_smallestAlone_2 ?_
  refine z_iand K dX2_smallestAlone_3 ?_
  exact z_iret K dX2_smallestAlone_4 (rfl) [] rfl (by decide) (by decide)

set_option maxRecDepth 100000 in
set_option maxHeartbeats 4000000 in
theorem m_J6_bitCount_0f7a4 (l : Launch) (G : Nat → Prop) (D : va_G) (cI cJ : ClassId) (w : Int32)  : z_M l yJ6_bitCount_0f7a4 wsJ6_bitCount_0f7a4 { frames := 0, cells := 0, slots := 0, locals := 0 } G D [(cI, .int), (cJ, .long)] [.int w] [] (some (.int (pc w))) [] 0 0 := by
  refine z_ofW (cc := cJ6_bitCount_0f7a4) (nL := 1) (ret := (some .int)) (by decide) rfl (Nat.le_of_ble_eq_true rfl) [] rfl (lv0 := [(0, .int w)]) rfl ?_
  intro p e s m args below meth c K
  refine z_iload_n K 0 dJ6_bitCount_0f7a4_0 rfl ?_
  refine z_iload_n K 0 dJ6_bitCount_0f7a4_1 rfl ?_
  refine z_iconst (v := 1) K dJ6_bitCount_0f7a4_2 (by decide) ?_
  refine z_iushr (v := ((w.toUInt32 >>> (Int32.toUInt32 1 &&& Int32.toUInt32 31)).toInt32)) K dJ6_bitCount_0f7a4_3 rfl ?_
  refine z_ldcw (v := 1431655765) K dJ6_bitCount_0f7a4_4 (by decide +kernel) ?_
  refine z_iand K dJ6_bitCount_0f7a4_7 ?_
  refine z_isub K dJ6_bitCount_0f7a4_8 ?_
  refine z_istore_n (lv' := [(0, .int (w - (((w.toUInt32 >>> (Int32.toUInt32 1 &&& Int32.toUInt32 31)).toInt32) &&& 1431655765)))]) K dJ6_bitCount_0f7a4_9 (by decide) rfl ?_
  refine z_iload_n K 0 dJ6_bitCount_0f7a4_10 rfl ?_
  refine z_ldcw (v := 858993459) K dJ6_bitCount_0f7a4_11 (by decide +kernel) ?_
  refine z_iand K dJ6_bitCount_0f7a4_14 ?_
  refine z_iload_n K 0 dJ6_bitCount_0f7a4_15 rfl ?_
  refine z_iconst (v := 2) K dJ6_bitCount_0f7a4_16 (by decide) ?_
  refine z_iushr (v := (((w - (((w.toUInt32 >>> (Int32.toUInt32 1 &&& Int32.toUInt32 31)).toInt32) &&& 1431655765)).toUInt32 >>> (Int32.toUInt32 2 &&& Int32.toUInt32 31)).toInt32)) K dJ6_bitCount_0f7a4_17 rfl ?_
  refine z_ldcw (v := 858993459) K dJ6_bitCount_0f7a4_18 (by decide +kernel) ?_
  refine z_iand K dJ6_bitCount_0f7a4_21 ?_
  refine z_iadd K dJ6_bitCount_0f7a4_22 ?_
  refine z_istore_n (lv' := [(0, .int (((w - (((w.toUInt32 >>> (Int32.toUInt32 1 &&& Int32.toUInt32 31)).toInt32) &&& 1431655765)) &&& 858993459) + ((((w - (((w.toUInt32 >>> (Int32.toUInt32 1 &&& Int32.toUInt32 31)).toInt32) &&& 1431655765)).toUInt32 >>> (Int32.toUInt32 2 &&& Int32.toUInt32 31)).toInt32) &&& 858993459)))]) K dJ6_bitCount_0f7a4_23 (by decide) rfl ?_
  refine z_iload_n K 0 dJ6_bitCount_0f7a4_24 rfl ?_
  refine z_iload_n K 0 dJ6_bitCount_0f7a4_25 rfl ?_
  refine z_iconst (v := 4) K dJ6_bitCount_0f7a4_26 (by decide) ?_
  refine z_iushr (v := (((((w - (((w.toUInt32 >>> (Int32.toUInt32 1 &&& Int32.toUInt32 31)).toInt32) &&& 1431655765)) &&& 858993459) + ((((w - (((w.toUInt32 >>> (Int32.toUInt32 1 &&& Int32.toUInt32 31)).toInt32) &&& 1431655765)).toUInt32 >>> (Int32.toUInt32 2 &&& Int32.toUInt32 31)).toInt32) &&& 858993459)).toUInt32 >>> (Int32.toUInt32 4 &&& Int32.toUInt32 31)).toInt32)) K dJ6_bitCount_0f7a4_27 rfl ?_
  refine z_iadd K dJ6_bitCount_0f7a4_28 ?_
  refine z_ldcw (v := 252645135) K dJ6_bitCount_0f7a4_29 (by decide +kernel) ?_
  refine z_iand K dJ6_bitCount_0f7a4_32 ?_
  refine z_istore_n (lv' := [(0, .int (((((w - (((w.toUInt32 >>> (Int32.toUInt32 1 &&& Int32.toUInt32 31)).toInt32) &&& 1431655765)) &&& 858993459) + ((((w - (((w.toUInt32 >>> (Int32.toUInt32 1 &&& Int32.toUInt32 31)).toInt32) &&& 1431655765)).toUInt32 >>> (Int32.toUInt32 2 &&& Int32.toUInt32 31)).toInt32) &&& 858993459)) + (((((w - (((w.toUInt32 >>> (Int32.toUInt32 1 &&& Int32.toUInt32 31)).toInt32) &&& 1431655765)) &&& 858993459) + ((((w - (((w.toUInt32 >>> (Int32.toUInt32 1 &&& Int32.toUInt32 31)).toInt32) &&& 1431655765)).toUInt32 >>> (Int32.toUInt32 2 &&& Int32.toUInt32 31)).toInt32) &&& 858993459)).toUInt32 >>> (Int32.toUInt32 4 &&& Int32.toUInt32 31)).toInt32)) &&& 252645135))]) K dJ6_bitCount_0f7a4_33 (by decide) rfl ?_
  refine z_iload_n K 0 dJ6_bitCount_0f7a4_34 rfl ?_
  refine z_iload_n K 0 dJ6_bitCount_0f7a4_35 rfl ?_
  refine z_bipush (v := 8) K dJ6_bitCount_0f7a4_36 (by decide) ?_
  refine z_iushr (v := (((((((w - (((w.toUInt32 >>> (Int32.toUInt32 1 &&& Int32.toUInt32 31)).toInt32) &&& 1431655765)) &&& 858993459) + ((((w - (((w.toUInt32 >>> (Int32.toUInt32 1 &&& Int32.toUInt32 31)).toInt32) &&& 1431655765)).toUInt32 >>> (Int32.toUInt32 2 &&& Int32.toUInt32 31)).toInt32) &&& 858993459)) + (((((w - (((w.toUInt32 >>> (Int32.toUInt32 1 &&& Int32.toUInt32 31)).toInt32) &&& 1431655765)) &&& 858993459) + ((((w - (((w.toUInt32 >>> (Int32.toUInt32 1 &&& Int32.toUInt32 31)).toInt32) &&& 1431655765)).toUInt32 >>> (Int32.toUInt32 2 &&& Int32.toUInt32 31)).toInt32) &&& 858993459)).toUInt32 >>> (Int32.toUInt32 4 &&& Int32.toUInt32 31)).toInt32)) &&& 252645135).toUInt32 >>> (Int32.toUInt32 8 &&& Int32.toUInt32 31)).toInt32)) K dJ6_bitCount_0f7a4_38 rfl ?_
  refine z_iadd K dJ6_bitCount_0f7a4_39 ?_
  refine z_istore_n (lv' := [(0, .int ((((((w - (((w.toUInt32 >>> (Int32.toUInt32 1 &&& Int32.toUInt32 31)).toInt32) &&& 1431655765)) &&& 858993459) + ((((w - (((w.toUInt32 >>> (Int32.toUInt32 1 &&& Int32.toUInt32 31)).toInt32) &&& 1431655765)).toUInt32 >>> (Int32.toUInt32 2 &&& Int32.toUInt32 31)).toInt32) &&& 858993459)) + (((((w - (((w.toUInt32 >>> (Int32.toUInt32 1 &&& Int32.toUInt32 31)).toInt32) &&& 1431655765)) &&& 858993459) + ((((w - (((w.toUInt32 >>> (Int32.toUInt32 1 &&& Int32.toUInt32 31)).toInt32) &&& 1431655765)).toUInt32 >>> (Int32.toUInt32 2 &&& Int32.toUInt32 31)).toInt32) &&& 858993459)).toUInt32 >>> (Int32.toUInt32 4 &&& Int32.toUInt32 31)).toInt32)) &&& 252645135) + (((((((w - (((w.toUInt32 >>> (Int32.toUInt32 1 &&& Int32.toUInt32 31)).toInt32) &&& 1431655765)) &&& 858993459) + ((((w - (((w.toUInt32 >>> (Int32.toUInt32 1 &&& Int32.toUInt32 31)).toInt32) &&& 1431655765)).toUInt32 >>> (Int32.toUInt32 2 &&& Int32.toUInt32 31)).toInt32) &&& 858993459)) + (((((w - (((w.toUInt32 >>> (Int32.toUInt32 1 &&& Int32.toUInt32 31)).toInt32) &&& 1431655765)) &&& 858993459) + ((((w - (((w.toUInt32 >>> (Int32.toUInt32 1 &&& Int32.toUInt32 31)).toInt32) &&& 1431655765)).toUInt32 >>> (Int32.toUInt32 2 &&& Int32.toUInt32 31)).toInt32) &&& 858993459)).toUInt32 >>> (Int32.toUInt32 4 &&& Int32.toUInt32 31)).toInt32)) &&& 252645135).toUInt32 >>> (Int32.toUInt32 8 &&& Int32.toUInt32 31)).toInt32)))]) K dJ6_bitCount_0f7a4_40 (by decide) rfl ?_
  refine z_iload_n K 0 dJ6_bitCount_0f7a4_41 rfl ?_
  refine z_iload_n K 0 dJ6_bitCount_0f7a4_42 rfl ?_
  refine z_bipush (v := 16) K dJ6_bitCount_0f7a4_43 (by decide) ?_
  refine z_iushr (v := ((((((((w - (((w.toUInt32 >>> (Int32.toUInt32 1 &&& Int32.toUInt32 31)).toInt32) &&& 1431655765)) &&& 858993459) + ((((w - (((w.toUInt32 >>> (Int32.toUInt32 1 &&& Int32.toUInt32 31)).toInt32) &&& 1431655765)).toUInt32 >>> (Int32.toUInt32 2 &&& Int32.toUInt32 31)).toInt32) &&& 858993459)) + (((((w - (((w.toUInt32 >>> (Int32.toUInt32 1 &&& Int32.toUInt32 31)).toInt32) &&& 1431655765)) &&& 858993459) + ((((w - (((w.toUInt32 >>> (Int32.toUInt32 1 &&& Int32.toUInt32 31)).toInt32) &&& 1431655765)).toUInt32 >>> (Int32.toUInt32 2 &&& Int32.toUInt32 31)).toInt32) &&& 858993459)).toUInt32 >>> (Int32.toUInt32 4 &&& Int32.toUInt32 31)).toInt32)) &&& 252645135) + (((((((w - (((w.toUInt32 >>> (Int32.toUInt32 1 &&& Int32.toUInt32 31)).toInt32) &&& 1431655765)) &&& 858993459) + ((((w - (((w.toUInt32 >>> (Int32.toUInt32 1 &&& Int32.toUInt32 31)).toInt32) &&& 1431655765)).toUInt32 >>> (Int32.toUInt32 2 &&& Int32.toUInt32 31)).toInt32) &&& 858993459)) + (((((w - (((w.toUInt32 >>> (Int32.toUInt32 1 &&& Int32.toUInt32 31)).toInt32) &&& 1431655765)) &&& 858993459) + ((((w - (((w.toUInt32 >>> (Int32.toUInt32 1 &&& Int32.toUInt32 31)).toInt32) &&& 1431655765)).toUInt32 >>> (Int32.toUInt32 2 &&& Int32.toUInt32 31)).toInt32) &&& 858993459)).toUInt32 >>> (Int32.toUInt32 4 &&& Int32.toUInt32 31)).toInt32)) &&& 252645135).toUInt32 >>> (Int32.toUInt32 8 &&& Int32.toUInt32 31)).toInt32)).toUInt32 >>> (Int32.toUInt32 16 &&& Int32.toUInt32 31)).toInt32)) K dJ6_bitCount_0f7a4_45 rfl ?_
  refine z_iadd K dJ6_bitCount_0f7a4_46 ?_
  refine z_istore_n (lv' := [(0, .int (((((((w - (((w.toUInt32 >>> (Int32.toUInt32 1 &&& Int32.toUInt32 31)).toInt32) &&& 1431655765)) &&& 858993459) + ((((w - (((w.toUInt32 >>> (Int32.toUInt32 1 &&& Int32.toUInt32 31)).toInt32) &&& 1431655765)).toUInt32 >>> (Int32.toUInt32 2 &&& Int32.toUInt32 31)).toInt32) &&& 858993459)) + (((((w - (((w.toUInt32 >>> (Int32.toUInt32 1 &&& Int32.toUInt32 31)).toInt32) &&& 1431655765)) &&& 858993459) + ((((w - (((w.toUInt32 >>> (Int32.toUInt32 1 &&& Int32.toUInt32 31)).toInt32) &&& 1431655765)).toUInt32 >>> (Int32.toUInt32 2 &&& Int32.toUInt32 31)).toInt32) &&& 858993459)).toUInt32 >>> (Int32.toUInt32 4 &&& Int32.toUInt32 31)).toInt32)) &&& 252645135) + (((((((w - (((w.toUInt32 >>> (Int32.toUInt32 1 &&& Int32.toUInt32 31)).toInt32) &&& 1431655765)) &&& 858993459) + ((((w - (((w.toUInt32 >>> (Int32.toUInt32 1 &&& Int32.toUInt32 31)).toInt32) &&& 1431655765)).toUInt32 >>> (Int32.toUInt32 2 &&& Int32.toUInt32 31)).toInt32) &&& 858993459)) + (((((w - (((w.toUInt32 >>> (Int32.toUInt32 1 &&& Int32.toUInt32 31)).toInt32) &&& 1431655765)) &&& 858993459) + ((((w - (((w.toUInt32 >>> (Int32.toUInt32 1 &&& Int32.toUInt32 31)).toInt32) &&& 1431655765)).toUInt32 >>> (Int32.toUInt32 2 &&& Int32.toUInt32 31)).toInt32) &&& 858993459)).toUInt32 >>> (Int32.toUInt32 4 &&& Int32.toUInt32 31)).toInt32)) &&& 252645135).toUInt32 >>> (Int32.toUInt32 8 &&& Int32.toUInt32 31)).toInt32)) + ((((((((w - (((w.toUInt32 >>> (Int32.toUInt32 1 &&& Int32.toUInt32 31)).toInt32) &&& 1431655765)) &&& 858993459) + ((((w - (((w.toUInt32 >>> (Int32.toUInt32 1 &&& Int32.toUInt32 31)).toInt32) &&& 1431655765)).toUInt32 >>> (Int32.toUInt32 2 &&& Int32.toUInt32 31)).toInt32) &&& 858993459)) + (((((w - (((w.toUInt32 >>> (Int32.toUInt32 1 &&& Int32.toUInt32 31)).toInt32) &&& 1431655765)) &&& 858993459) + ((((w - (((w.toUInt32 >>> (Int32.toUInt32 1 &&& Int32.toUInt32 31)).toInt32) &&& 1431655765)).toUInt32 >>> (Int32.toUInt32 2 &&& Int32.toUInt32 31)).toInt32) &&& 858993459)).toUInt32 >>> (Int32.toUInt32 4 &&& Int32.toUInt32 31)).toInt32)) &&& 252645135) + (((((((w - (((w.toUInt32 >>> (Int32.toUInt32 1 &&& Int32.toUInt32 31)).toInt32) &&& 1431655765)) &&& 858993459) + ((((w - (((w.toUInt32 >>> (Int32.toUInt32 1 &&& Int32.toUInt32 31)).toInt32) &&& 1431655765)).toUInt32 >>> (Int32.toUInt32 2 &&& Int32.toUInt32 31)).toInt32) &&& 858993459)) + (((((w - (((w.toUInt32 >>> (Int32.toUInt32 1 &&& Int32.toUInt32 31)).toInt32) &&& 1431655765)) &&& 858993459) + ((((w - (((w.toUInt32 >>> (Int32.toUInt32 1 &&& Int32.toUInt32 31)).toInt32) &&& 1431655765)).toUInt32 >>> (Int32.toUInt32 2 &&& Int32.toUInt32 31)).toInt32) &&& 858993459)).toUInt32 >>> (Int32.toUInt32 4 &&& Int32.toUInt32 31)).toInt32)) &&& 252645135).toUInt32 >>> (Int32.toUInt32 8 &&& Int32.toUInt32 31)).toInt32)).toUInt32 >>> (Int32.toUInt32 16 &&& Int32.toUInt32 31)).toInt32)))]) K dJ6_bitCount_0f7a4_47 (by decide) rfl ?_
  refine z_iload_n K 0 dJ6_bitCount_0f7a4_48 rfl ?_
  refine z_bipush (v := 63) K dJ6_bitCount_0f7a4_49 (by decide) ?_
  refine z_iand K dJ6_bitCount_0f7a4_51 ?_
  exact z_iret K dJ6_bitCount_0f7a4_52 (sorry) [] rfl (by decide) (by decide)

set_option maxRecDepth 100000 in
set_option maxHeartbeats 4000000 in
theorem m_X2_size (l : Launch) (G : Nat → Prop) (D : va_G) (cI cJ : ClassId) (w : Int32)  : z_M l yX2_size wsX2_size { frames := 1, cells := 0, slots := 0, locals := 20 } G D [(cI, .int), (cJ, .long)] [.int w] [] (some (.int (pc w))) [] 0 0 := by
  refine z_ofW (cc := cX2_size) (nL := 1) (ret := (some .int)) (by decide) rfl (Nat.le_of_ble_eq_true rfl) [] rfl (lv0 := [(0, .int w)]) rfl ?_
  intro p e s m args below meth c K
  refine z_iload_n K 0 dX2_size_0 rfl ?_
  refine z_callS (ws' := []) (st' := [.int (pc w)]) (rest := []) K (m_J6_bitCount_0f7a4 l G D cI cJ w ) gX2_size_J6_bitCount_0f7a4 rfl 1 (by decide +kernel) dX2_size_1 [] [] [] rfl rfl rfl ⟨by decide, by decide⟩ ⟨by decide, by decide⟩ rfl rfl rfl rfl (Nat.le_of_ble_eq_true rfl) rfl rfl rfl rfl ?_
  exact z_iret K dX2_size_4 (rfl) [] rfl (by decide) (by decide)

set_option maxRecDepth 100000 in
set_option maxHeartbeats 4000000 in
theorem m_X1_count (l : Launch) (G : Nat → Prop) (D : va_G) (cI cJ : ClassId) (aL : Nat) (w : Int32) (aL0 : Nat) (aL1 : Nat) (aL2 : Nat) (aL3 : Nat) (aL4 : Nat) (aL5 : Nat) (hu : Int32) (lt : Nat → Int32)  : z_M l yX1_count wsX1_count { frames := 2, cells := 0, slots := 0, locals := 40 } G D [(cI, .int), (cJ, .long)] [.ref aL, .int w] [(aL, .inr (1, [.ref aL0, .ref aL1, .ref aL2, .ref aL3, .ref aL4, .ref aL5, .int hu])), (aL3, .inl (cI, 6, .inl lt))] (some (.int (cntS lt w 6))) [] 0 0 := by
  have iX1 : ∀ w ∈ u_ws RX1 TX1 7, w ∈ wsX1_count := fun w h => List.mem_cons_of_mem _ (List.mem_append_right _ h)
  refine z_ofW (cc := cX1_count) (nL := 4) (ret := (some .int)) (by decide) rfl (Nat.le_of_ble_eq_true rfl) [] rfl (lv0 := [(0, .ref aL), (1, .int w)]) rfl ?_
  intro p e s m args below meth c K
  refine z_iconst (v := 0) K dX1_count_0 (by decide) ?_
  refine z_istore_n (lv' := [(2, .int 0), (0, .ref aL), (1, .int w)]) K dX1_count_1 (by decide) rfl ?_
  refine z_iconst (v := 0) K dX1_count_2 (by decide) ?_
  refine z_istore_n (lv' := [(3, .int 0), (2, .int 0), (0, .ref aL), (1, .int w)]) K dX1_count_3 (by decide) rfl ?_
  refine z_loop (wsf := fun k => [(aL, .inr (1, [.ref aL0, .ref aL1, .ref aL2, .ref aL3, .ref aL4, .ref aL5, .int hu])), (aL3, .inl (cI, 6, .inl lt))]) (lvf := fun k => [(3, .int (nI k)), (2, .int (cntS lt w k)), (0, .ref aL), (1, .int w)]) 6 rfl rfl ?_ (fun k hk ihk => ?_)
  · refine z_iload_n K 0 dX1_count_4 rfl ?_
    refine z_bipush (v := 6) K dX1_count_5 (by decide) ?_
    refine z_cmpN K 30 6 6 dX1_count_7 (by decide) rfl rfl (by omega) (by omega) (fun _ => ?_) (fun h => absurd h (by omega))
    refine z_iload_n K 1 dX1_count_30 rfl ?_
    exact z_iret K dX1_count_31 (rfl) [] rfl (by decide) (by decide)
  · refine z_iload_n K 0 dX1_count_4 rfl ?_
    refine z_bipush (v := 6) K dX1_count_5 (by decide) ?_
    refine z_cmpN K 30 k 6 dX1_count_7 (by decide) rfl rfl (by omega) (by omega) (fun h => absurd h (by omega)) (fun _ => ?_)
    refine z_iload_n K 1 dX1_count_10 rfl ?_
    refine z_aload_n K 2 dX1_count_11 rfl ?_
    refine z_get (C := RX1) (T := TX1) (N := 7) (ci := 1) K iX1 rfl 0 rfl 3 (by decide) (by decide +kernel) rfl rfl dX1_count_12 ?_
    refine z_iload_n K 0 dX1_count_15 rfl ?_
    refine z_ialdN K 1 0 k (by omega) (by omega) rfl rfl dX1_count_16 ?_
    refine z_iload_n K 3 dX1_count_17 rfl ?_
    refine z_iand K dX1_count_18 ?_
    refine z_callSN (st' := [.int (pc ((lt k) &&& w)), .int (cntS lt w k)]) (rest := [.int (cntS lt w k)]) K (m_X2_size l G D cI cJ ((lt k) &&& w) ) gX1_count_X2_size_n57 rfl 1 (host := "FableIndex") (by decide) (by decide +kernel) (by decide +kernel) (by decide +kernel) dX1_count_19 rfl rfl ⟨by decide, by decide⟩ ⟨by decide, by decide⟩ rfl rfl (Nat.le_of_ble_eq_true rfl) rfl ?_
    refine z_iadd K dX1_count_22 ?_
    refine z_istore_n (lv' := [(2, .int (cntS lt w k + (pc ((lt k) &&& w)))), (3, .int (nI k)), (0, .ref aL), (1, .int w)]) K dX1_count_23 (by decide) rfl ?_
    refine z_iinc (lv' := [(3, .int (nI (k + 1))), (2, .int (cntS lt w k + (pc ((lt k) &&& w)))), (0, .ref aL), (1, .int w)]) (v := nI (k + 1)) K 1 dX1_count_24 rfl (z_inc1 k) (by decide) rfl ?_
    refine z_goto K 4 dX1_count_27 (by decide) ?_
    exact ihk

set_option maxRecDepth 100000 in
set_option maxHeartbeats 4000000 in
theorem m_X0_all (l : Launch) (G : Nat → Prop) (D : va_G) (cI cJ : ClassId) (aB : Nat) (n : Nat) (aB0 : Nat) (aB1 : Nat) (aB2 : Nat) (aB3 : Nat) (aB4 : Nat) (aB5 : Nat)  : z_M l yX0_all wsX0_all { frames := 0, cells := 0, slots := 0, locals := 0 } G D [(cI, .int), (cJ, .long)] [.ref aB] [(aB, .inr (0, [.int (nI n), .ref aB0, .ref aB1, .ref aB2, .ref aB3, .ref aB4, .ref aB5]))] (some (.int (allS n))) [] 0 0 := by
  have iX0 : ∀ w ∈ u_ws RX0 TX0 7, w ∈ wsX0_all := fun w h => List.mem_cons_of_mem _ (List.mem_append_right _ h)
  refine z_ofW (cc := cX0_all) (nL := 1) (ret := (some .int)) (by decide) rfl (Nat.le_of_ble_eq_true rfl) [] rfl (lv0 := [(0, .ref aB)]) rfl ?_
  intro p e s m args below meth c K
  refine z_iconst (v := 1) K dX0_all_0 (by decide) ?_
  refine z_aload_n K 0 dX0_all_1 rfl ?_
  refine z_get (C := RX0) (T := TX0) (N := 7) (ci := 0) K iX0 rfl 0 rfl 0 (by decide) (by decide +kernel) rfl rfl dX0_all_2 ?_
  refine z_ishl K dX0_all_5 ?_
  refine z_iconst (v := 1) K dX0_all_6 (by decide) ?_
  refine z_isub K dX0_all_7 ?_
  exact z_iret K dX0_all_8 (rfl) [] rfl (by decide) (by decide)

set_option maxRecDepth 100000 in
set_option maxHeartbeats 4000000 in
theorem m_X1_bans (l : Launch) (G : Nat → Prop) (D : va_G) (cI cJ : ClassId) (aL : Nat) (aB : Nat) (f : Nat) (v : Nat) (aL0 : Nat) (aL1 : Nat) (aL2 : Nat) (aL3 : Nat) (aL4 : Nat) (aL5 : Nat) (hu : Int32) (lm : Nat → Int32) (lb : Nat → Int32) (n : Nat) (aB0 : Nat) (aB1 : Nat) (aB2 : Nat) (aB3 : Nat) (aB4 : Nat) (aB5 : Nat) (fm : Nat → Int32) (fb : Nat → Int32) (hf : f < 20) (hv : v < 6) : z_M l yX1_bans wsX1_bans { frames := 1, cells := 0, slots := 0, locals := 21 } G D [(cI, .int), (cJ, .long)] [.ref aL, .ref aB, .int (nI f), .int (nI v)] [(aL, .inr (1, [.ref aL0, .ref aL1, .ref aL2, .ref aL3, .ref aL4, .ref aL5, .int hu])), (aL1, .inl (cI, 6, .inl lm)), (aL2, .inl (cI, 6, .inl lb)), (aB, .inr (0, [.int (nI n), .ref aB0, .ref aB1, .ref aB2, .ref aB3, .ref aB4, .ref aB5])), (aB0, .inl (cI, 20, .inl fm)), (aB1, .inl (cI, 20, .inl fb))] (some (.int (z_b (ban lm lb fm fb f v)))) [] 0 0 := by
  have iX1 : ∀ w ∈ u_ws RX1 TX1 7, w ∈ wsX1_bans := fun w h => List.mem_cons_of_mem _ (List.mem_append_left _ (List.mem_append_right _ h))
  have iX0 : ∀ w ∈ u_ws RX0 TX0 7, w ∈ wsX1_bans := fun w h => List.mem_cons_of_mem _ (List.mem_append_right _ h)
  refine z_ofW (cc := cX1_bans) (nL := 4) (ret := (some .boolean)) (by decide) rfl (Nat.le_of_ble_eq_true rfl) [] rfl (lv0 := [(0, .ref aL), (1, .ref aB), (2, .int (nI f)), (3, .int (nI v))]) rfl ?_
  intro p e s m args below meth c K
  refine z_aload_n K 0 dX1_bans_0 rfl ?_
  refine z_get (C := RX1) (T := TX1) (N := 7) (ci := 1) K iX1 rfl 0 rfl 1 (by decide) (by decide +kernel) rfl rfl dX1_bans_1 ?_
  refine z_iload_n K 3 dX1_bans_4 rfl ?_
  refine z_ialdN K 1 0 v (by omega) (by omega) rfl rfl dX1_bans_5 ?_
  refine z_aload_n K 1 dX1_bans_6 rfl ?_
  refine z_get (C := RX0) (T := TX0) (N := 7) (ci := 0) K iX0 rfl 3 rfl 1 (by decide) (by decide +kernel) rfl rfl dX1_bans_7 ?_
  refine z_iload_n K 2 dX1_bans_10 rfl ?_
  refine z_ialdN K 4 0 f (by omega) (by omega) rfl rfl dX1_bans_11 ?_
  refine z_callSN (st' := [.int (z_b (hs (lm v) (fm f)))]) (rest := []) K (m_X2_has l G D cI cJ (lm v) (fm f) ) gX1_bans_X2_has_n43 rfl 2 (host := "FableIndex") (by decide) (by decide +kernel) (by decide +kernel) (by decide +kernel) dX1_bans_12 rfl rfl ⟨by decide, by decide⟩ ⟨by decide, by decide⟩ rfl rfl (Nat.le_of_ble_eq_true rfl) rfl ?_
  refine z_if_neB K 34 dX1_bans_15 (by decide) (fun c15 => ?_) (fun c15 => ?_)
  · refine z_iconst (v := 1) K dX1_bans_34 (by decide) ?_
    refine z_goto K 39 dX1_bans_35 (by decide) ?_
    exact z_zret K dX1_bans_39 (by simp [z_b, ban, c15]) [] rfl (by decide) (by decide)
  · refine z_aload_n K 0 dX1_bans_18 rfl ?_
    refine z_get (C := RX1) (T := TX1) (N := 7) (ci := 1) K iX1 rfl 0 rfl 2 (by decide) (by decide +kernel) rfl rfl dX1_bans_19 ?_
    refine z_iload_n K 3 dX1_bans_22 rfl ?_
    refine z_ialdN K 2 0 v (by omega) (by omega) rfl rfl dX1_bans_23 ?_
    refine z_aload_n K 1 dX1_bans_24 rfl ?_
    refine z_get (C := RX0) (T := TX0) (N := 7) (ci := 0) K iX0 rfl 3 rfl 2 (by decide) (by decide +kernel) rfl rfl dX1_bans_25 ?_
    refine z_iload_n K 2 dX1_bans_28 rfl ?_
    refine z_ialdN K 5 0 f (by omega) (by omega) rfl rfl dX1_bans_29 ?_
    refine z_iand K dX1_bans_30 ?_
    refine z_if_eq K 38 dX1_bans_31 (by decide) (fun c31 => ?_) (fun c31 => ?_)
    · refine z_iconst (v := 0) K dX1_bans_38 (by decide) ?_
      exact z_zret K dX1_bans_39 (by simp [z_b, ban, c15, c31]) [] rfl (by decide) (by decide)
    · refine z_iconst (v := 1) K dX1_bans_34 (by decide) ?_
      refine z_goto K 39 dX1_bans_35 (by decide) ?_
      exact z_zret K dX1_bans_39 (by simp [z_b, ban, c15, c31]) [] rfl (by decide) (by decide)
end
