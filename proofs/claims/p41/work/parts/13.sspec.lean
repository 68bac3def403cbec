/-! what the simulation's methods compute, as they go -/
section SSPEC
variable (MM : Nat → Nat) (PP : Nat → Int32) (BB TB MB AB PB : Nat → Nat → Bool)
def bnS (f v : Nat) : Nat → Bool := z_fold (fun b a => a || (BB f b && AB v b)) (MB v (MM f))
theorem bnS_0 (f v : Nat) : bnS MM BB MB AB f v 0 = MB v (MM f) := rfl
theorem bnS_succ (f v k : Nat) : bnS MM BB MB AB f v (k + 1) = (bnS MM BB MB AB f v k || (BB f k && AB v k)) := rfl
def vaS (f : Nat) : Nat → Int32 := z_fold (fun v a => a + z_b (TB f v)) 0
theorem vaS_0 (f : Nat) : vaS TB f 0 = 0 := rfl
theorem vaS_succ (f k : Nat) : vaS TB f (k + 1) = vaS TB f k + z_b (TB f k) := rfl
def teS : Nat → Int32 := z_fold (fun f a => a + vaS TB f 6) 0
theorem teS_0 : teS TB 0 = 0 := rfl
theorem teS_succ (k : Nat) : teS TB (k + 1) = teS TB k + vaS TB k 6 := rfl
def hvS (f : Nat) : Nat → Bool := z_fold (fun k a => a || decide (PP k = nI f)) false
theorem hvS_0 (f : Nat) : hvS PP f 0 = false := rfl
theorem hvS_succ (f k : Nat) : hvS PP f (k + 1) = (hvS PP f k || decide (PP k = nI f)) := rfl
theorem hvS_iff (f : Nat) : ∀ n, hvS PP f n = true ↔ ∃ k, k < n ∧ PP k = nI f
  | 0 => by simp [hvS_0]
  | n + 1 => by
    rw [hvS_succ, Bool.or_eq_true, hvS_iff f n, decide_eq_true_iff]
    constructor
    · rintro (⟨k, h, e⟩ | e)
      · exact ⟨k, by omega, e⟩
      · exact ⟨n, by omega, e⟩
    · rintro ⟨k, h, e⟩
      by_cases hk : k = n
      · exact Or.inr (hk ▸ e)
      · exact Or.inl ⟨k, by omega, e⟩
theorem hvS_true {PP : Nat → Int32} {f k n : Nat} (hk : k < n) (h : PP k = nI f) : hvS PP f n = true := (hvS_iff PP f n).mpr ⟨k, hk, h⟩
/-- the tellings of fables with a moral, or a beast behind ten -/
def lvS (w : Nat) : Nat → Int32 := z_fold (fun f a => a + (if (10 : Int32) ≤ nI w then (if BB f (w - 10) then vaS TB f 6 else 0) else (if nI (MM f) = nI w then vaS TB f 6 else 0))) 0
theorem lvS_0 (w : Nat) : lvS MM BB TB w 0 = 0 := rfl
theorem lvS_succ (w k : Nat) : lvS MM BB TB w (k + 1) = lvS MM BB TB w k + (if (10 : Int32) ≤ nI w then (if BB k (w - 10) then vaS TB k 6 else 0) else (if nI (MM k) = nI w then vaS TB k 6 else 0)) := rfl
def lvN (n w : Nat) : Int32 := lvS MM BB TB w n
def fvS (lv : Nat → Int32) (to : Nat) : Nat → Int32 := z_fold (fun d b => if lv (to - 1 - d) ≤ 0 then b else if b < 0 then nI (to - 1 - d) else if lv (to - 1 - d) < lv (ix b) then b else nI (to - 1 - d)) (-1)
theorem fvS_0 (lv : Nat → Int32) (to : Nat) : fvS lv to 0 = -1 := rfl
theorem fvS_succ (lv : Nat → Int32) (to d : Nat) : fvS lv to (d + 1) = if lv (to - 1 - d) ≤ 0 then fvS lv to d else if fvS lv to d < 0 then nI (to - 1 - d) else if lv (to - 1 - d) < lv (ix (fvS lv to d)) then fvS lv to d else nI (to - 1 - d) := rfl
theorem fvS_cases (lv : Nat → Int32) {to : Nat} : ∀ d, d ≤ to → fvS lv to d = -1 ∨ ∃ j, j < to ∧ to - d ≤ j ∧ fvS lv to d = nI j
  | 0, _ => Or.inl rfl
  | d + 1, h => by
    rw [fvS_succ]
    have ih := fvS_cases lv (to := to) d (by omega)
    have new : ∃ j, j < to ∧ to - (d + 1) ≤ j ∧ nI (to - 1 - d) = nI j := ⟨to - 1 - d, by omega, by omega, rfl⟩
    have old : fvS lv to d = -1 ∨ ∃ j, j < to ∧ to - (d + 1) ≤ j ∧ fvS lv to d = nI j := ih.imp id (fun ⟨j, h1, h2, h3⟩ => ⟨j, h1, by omega, h3⟩)
    split
    · exact old
    · split
      · exact Or.inr new
      · split
        · exact old
        · exact Or.inr new
def fvR (lv : Nat → Int32) (lo hi : Nat) : Int32 := if fvS lv hi (hi - lo) < 0 then -1 else fvS lv hi (hi - lo) - nI lo
theorem sub10 : ∀ w, w < 22 → (10 : Int32) ≤ nI w → nI w - 10 = nI (w - 10) := by decide +kernel
theorem le10 {w : Nat} (hw : w < 22) (h : (10 : Int32) ≤ nI w) : 10 ≤ w := (nI_leI (a := 10) (b := w) (by omega) (by omega)).mp h
theorem gi_lt : ∀ k : Nat, k < 2 ^ 31 → gi k < nI k
  | 0, _ => by decide
  | k + 1, h => nI_lt (Nat.lt_succ_self k) h
theorem gi_at {a b : Nat} (h : a = b + 1) : gi a = nI b := by subst h; rfl
/-! a season: what is banned is silenced; what is told goes over the passes -/
def p1I (f : Nat) (x : (Nat → Nat → Bool) × Int32) : Nat → (Nat → Nat → Bool) × Int32 := z_fold (fun v x => if x.1 f v then (if bnS MM BB MB AB f v 12 then (up2 x.1 f v false, x.2 + 1) else x) else x) x
theorem p1I_0 (f : Nat) (x : (Nat → Nat → Bool) × Int32) : p1I MM BB MB AB f x 0 = x := rfl
theorem p1I_succ (f : Nat) (x : (Nat → Nat → Bool) × Int32) (v : Nat) : p1I MM BB MB AB f x (v + 1) = if (p1I MM BB MB AB f x v).1 f v then (if bnS MM BB MB AB f v 12 then (up2 (p1I MM BB MB AB f x v).1 f v false, (p1I MM BB MB AB f x v).2 + 1) else p1I MM BB MB AB f x v) else p1I MM BB MB AB f x v := rfl
def p1O (x : (Nat → Nat → Bool) × Int32) : Nat → (Nat → Nat → Bool) × Int32 := z_fold (fun f x => p1I MM BB MB AB f x 6) x
theorem p1O_0 (x : (Nat → Nat → Bool) × Int32) : p1O MM BB MB AB x 0 = x := rfl
theorem p1O_succ (x : (Nat → Nat → Bool) × Int32) (f : Nat) : p1O MM BB MB AB x (f + 1) = p1I MM BB MB AB f (p1O MM BB MB AB x f) 6 := rfl
/-- downwards: the last that is found is the first of all -/
def cmD (p : Nat → Bool) (n : Nat) : Nat → Int32 := z_fold (fun d a => if p (n - 1 - d) then nI (n - 1 - d) else a) (-1)
theorem cmD_0 (p : Nat → Bool) (n : Nat) : cmD p n 0 = -1 := rfl
theorem cmD_succ (p : Nat → Bool) (n d : Nat) : cmD p n (d + 1) = if p (n - 1 - d) then nI (n - 1 - d) else cmD p n d := rfl
def chP (f to k : Nat) : Bool := decide (PP k = nI f) && !bnS MM BB MB AB k to 12
def cmS (n f to : Nat) : Int32 := if bnS MM BB MB AB f to 12 then (if MB to (MM f) then -1 else cmD (chP MM PP BB MB AB f to) n n) else nI f
theorem cmD_cases (p : Nat → Bool) {n : Nat} : ∀ d, d ≤ n → cmD p n d = -1 ∨ ∃ j, j < n ∧ cmD p n d = nI j
  | 0, _ => Or.inl rfl
  | d + 1, h => by
    rw [cmD_succ]
    split
    · exact Or.inr ⟨n - 1 - d, by omega, rfl⟩
    · exact cmD_cases p d (by omega)
theorem cmS_cases {n f : Nat} (to : Nat) (hf : f < n) : cmS MM PP BB MB AB n f to = -1 ∨ ∃ j, j < n ∧ cmS MM PP BB MB AB n f to = nI j := by
  unfold cmS
  split
  · split
    · exact Or.inl rfl
    · exact cmD_cases _ n (Nat.le_refl n)
  · exact Or.inr ⟨f, hf, rfl⟩
def p2T (n f v : Nat) (a : Nat → Nat → Bool) : Nat → Nat → Nat → Bool := z_fold (fun to a => if PB v to then (if cmS MM PP BB MB AB n f to < 0 then a else up2 a (ix (cmS MM PP BB MB AB n f to)) to true) else a) a
theorem p2T_0 (n f v : Nat) (a : Nat → Nat → Bool) : p2T MM PP BB MB AB PB n f v a 0 = a := rfl
theorem p2T_succ (n f v : Nat) (a : Nat → Nat → Bool) (to : Nat) : p2T MM PP BB MB AB PB n f v a (to + 1) = if PB v to then (if cmS MM PP BB MB AB n f to < 0 then p2T MM PP BB MB AB PB n f v a to else up2 (p2T MM PP BB MB AB PB n f v a to) (ix (cmS MM PP BB MB AB n f to)) to true) else p2T MM PP BB MB AB PB n f v a to := rfl
def p2V (n f : Nat) (a : Nat → Nat → Bool) : Nat → Nat → Nat → Bool := z_fold (fun v a => if TB f v then p2T MM PP BB MB AB PB n f v (up2 a f v true) 6 else a) a
theorem p2V_0 (n f : Nat) (a : Nat → Nat → Bool) : p2V MM PP BB TB MB AB PB n f a 0 = a := rfl
theorem p2V_succ (n f : Nat) (a : Nat → Nat → Bool) (v : Nat) : p2V MM PP BB TB MB AB PB n f a (v + 1) = if TB f v then p2T MM PP BB MB AB PB n f v (up2 (p2V MM PP BB TB MB AB PB n f a v) f v true) 6 else p2V MM PP BB TB MB AB PB n f a v := rfl
def p2F (n : Nat) (a : Nat → Nat → Bool) : Nat → Nat → Nat → Bool := z_fold (fun f a => p2V MM PP BB TB MB AB PB n f a 6) a
theorem p2F_0 (n : Nat) (a : Nat → Nat → Bool) : p2F MM PP BB TB MB AB PB n a 0 = a := rfl
theorem p2F_succ (n : Nat) (a : Nat → Nat → Bool) (f : Nat) : p2F MM PP BB TB MB AB PB n a (f + 1) = p2V MM PP BB TB MB AB PB n f (p2F MM PP BB TB MB AB PB n a f) 6 := rfl
/-- one season, from what is told and the number of the silenced -/
def psT (n : Nat) (x : (Nat → Nat → Bool) × Int32) : (Nat → Nat → Bool) × Int32 := (p2F MM PP BB (p1O MM BB MB AB x n).1 MB AB PB n (fun _ _ => false) n, (p1O MM BB MB AB x n).2)
def psQ (n : Nat) (x : (Nat → Nat → Bool) × Int32) : Nat → (Nat → Nat → Bool) × Int32 := z_fold (fun _ x => psT MM PP BB MB AB PB n x) x
theorem psQ_0 (n : Nat) (x : (Nat → Nat → Bool) × Int32) : psQ MM PP BB MB AB PB n x 0 = x := rfl
theorem psQ_succ (n : Nat) (x : (Nat → Nat → Bool) × Int32) (k : Nat) : psQ MM PP BB MB AB PB n x (k + 1) = psT MM PP BB MB AB PB n (psQ MM PP BB MB AB PB n x k) := rfl
end SSPEC
