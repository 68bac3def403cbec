section ZN2
variable {p : Program} {l : Launch} {e : Env} {R : Room} {s : State} {m : MethodId} {args : Array Value} {below : List Frame} {meth : Method} {c : Code} {D : va_G} {nL : Nat} {G A : Nat → Prop} {Q : State → Prop} {ws : va_W} {lv : List (Nat × Value)} {cells slots pc : Nat} {st : List Value} {cc : ByteArray} {ret : Option FieldType} {Ts : List Cond} {own : String} {tys : List (ClassId × FieldType)}
/-- a counted loop whose world is one of many -/
theorem z_loopE {β : Type} {wsf : Nat → β → va_W} {lvf : Nat → β → List (Nat × Value)} (Pb : Nat → β → Prop) (cf sf : Nat → Nat) (n : Nat) (b0 : β) (hb0 : Pb 0 b0) (hw : wsf 0 b0 = ws) (hl : lvf 0 b0 = lv) (hc : cf 0 = cells) (hsl : sf 0 = slots) (h0 : ∀ b, Pb n b → Z p l e R s m args below meth c D nL G A Q (wsf n b) (lvf n b) (cf n) (sf n) pc st) (hs : ∀ k, k < n → (∀ b, Pb (k + 1) b → Z p l e R s m args below meth c D nL G A Q (wsf (k + 1) b) (lvf (k + 1) b) (cf (k + 1)) (sf (k + 1)) pc st) → ∀ b, Pb k b → Z p l e R s m args below meth c D nL G A Q (wsf k b) (lvf k b) (cf k) (sf k) pc st) : Z p l e R s m args below meth c D nL G A Q ws lv cells slots pc st := by
  subst hw hl hc hsl
  exact z_down (P := fun k => ∀ b, Pb k b → Z p l e R s m args below meth c D nL G A Q (wsf k b) (lvf k b) (cf k) (sf k) pc st) n h0 hs 0 (Nat.zero_le _) b0 hb0
theorem ss_next (ss : Int32) (k : Nat) : ss + nI k + 1 = ss + nI (k + 1) := by rw [Int32.add_assoc, nI_1]

end ZN2
