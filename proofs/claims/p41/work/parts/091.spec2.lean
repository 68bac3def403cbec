/-! what the reference's methods compute -/
def inI (x lo hi : Int32) : Bool := !decide (x < lo) && !decide (hi < x)
theorem inI_fin (w : Int32) {n : Nat} (hn : n < 2 ^ 31) : inI w 0 (nI n - 1) = fin w n := by
  by_cases h : w < 0
  · simp [inI, fin, h]
  · obtain ⟨j, hj, rfl⟩ := nI_of h
    simp only [inI, fin, h, decide_false, Bool.not_false, Bool.true_and, decide_true]
    cases n with
    | zero =>
      have h1 : nI 0 - 1 = -1 := by decide
      have h2 : (-1 : Int32) < nI j := by
        have : ((-1 : Int32)).toInt = -1 := by decide
        exact Int32.lt_iff_toInt_lt.mpr (by rw [this, nI_toInt hj]; omega)
      have h3 : ¬ nI j < nI 0 := fun g => absurd ((nI_ltI hj (by omega)).mp g) (by omega)
      rw [h1]; simp [h2, h3]
    | succ n =>
      rw [nI_pred]
      by_cases g : j < n + 1
      · have h2 : ¬ nI n < nI j := fun q => absurd ((nI_ltI (by omega) hj).mp q) (by omega)
        have h3 : nI j < nI (n + 1) := (nI_ltI hj hn).mpr g
        simp [h2, h3]
      · have h2 : nI n < nI j := (nI_ltI (by omega) hj).mpr (by omega)
        have h3 : ¬ nI j < nI (n + 1) := fun q => g ((nI_ltI hj hn).mp q)
        simp [h2, h3]
theorem inI_lit (w : Int32) {n : Nat} {m : Int32} (hn : n < 2 ^ 31) (hm : m = nI n - 1) : inI w 0 m = fin w n := by rw [hm, inI_fin w hn]
theorem inI_sea (w m : Int32) : inI w 1 m = sea w m := by
  by_cases h : w < 1
  · simp [inI, sea, h]
  · by_cases g : m < w
    · have : ¬ w ≤ m := Int32.not_le.mpr g
      simp [inI, sea, h, g, this]
    · have : w ≤ m := Int32.not_lt.mp g
      simp [inI, sea, h, g, this]
theorem and1 (y : Int32) : y &&& 1 = 0 ∨ y &&& 1 = 1 := by
  obtain ⟨j, hj, h⟩ := pk_andE y (m := 1) 1 rfl
  rcases (show j = 0 ∨ j = 1 by omega) with rfl | rfl
  · exact Or.inl h
  · exact Or.inr h
theorem hs1 {x n : Int32} : hs x n = true ↔ (x >>> (n &&& 31)) &&& 1 = 1 := by
  simp only [hs, decide_eq_true_eq]
  rcases and1 (x >>> (n &&& 31)) with h | h
  · rw [h]; decide
  · rw [h]; decide
def chS (fp : Nat → Int32) (f : Nat) : Nat → Int32 := z_fold (fun k a => a + (if fp k = nI f then 1 else 0)) 0
theorem chS_succ (fp : Nat → Int32) (f k : Nat) : chS fp f (k + 1) = chS fp f k + (if fp k = nI f then 1 else 0) := rfl
def plS (lt : Nat → Int32) (f : Nat) : Nat → Int32 := z_fold (fun v a => a + z_b (hs (lt v) (nI f))) 0
theorem plS_succ (lt : Nat → Int32) (f v : Nat) : plS lt f (v + 1) = plS lt f v + z_b (hs (lt v) (nI f)) := rfl
def allM (lt : Nat → Int32) : Nat → Int32 := z_fold (fun v a => a + pc (lt v)) 0
/-- the first that has it -/
def fstF (p : Nat → Bool) : Nat → Int32
  | 0 => -1
  | k + 1 => if fstF p k = -1 then (if p k then nI k else -1) else fstF p k
theorem fstF_stop {p : Nat → Bool} {k : Nat} (h0 : fstF p k = -1) (hp : p k = true) (hk : k < 2 ^ 31) : ∀ {n : Nat}, k < n → fstF p n = nI k := by
  intro n hn
  have hne : ¬ nI k = -1 := fun e => by
    have h1 := nI_pos hk
    rw [e] at h1
    exact h1 (by decide)
  induction n with
  | zero => exact absurd hn (Nat.not_lt_zero _)
  | succ n ih =>
    rcases Nat.lt_or_ge k n with g | g
    · rw [fstF, ih g, if_neg hne]
    · have : n = k := by omega
      subst this
      rw [fstF, if_pos h0, if_pos hp]
theorem fstF_next {p : Nat → Bool} {k : Nat} (h0 : fstF p k = -1) (hp : p k = false) : fstF p (k + 1) = -1 := by
  rw [fstF, if_pos h0, if_neg (by rw [hp]; decide)]
def varP (lm lb fm fb fp : Nat → Int32) (f v : Nat) (k : Nat) : Bool := decide (fp k = nI f) && !ban lm lb fm fb k v
def comS (lm lb fm fb fp : Nat → Int32) (n f v : Nat) : Int32 := if ban lm lb fm fb f v then (if hs (lm v) (fm f) then -1 else fstF (varP lm lb fm fb fp f v) n) else nI f
/-- a season of the reference: first step -/
def s1I (lm lb fm fb : Nat → Int32) (v : Nat) (x : (Nat → Int32) × Int32) : Nat → (Nat → Int32) × Int32 := z_fold (fun f x => if hs (x.1 v) (nI f) then (if ban lm lb fm fb f v then (upd x.1 v (x.1 v &&& ((1 <<< (nI f &&& 31)) ^^^ (-1))), x.2 + 1) else x) else x) x
theorem s1I_succ (lm lb fm fb : Nat → Int32) (v : Nat) (x : (Nat → Int32) × Int32) (f : Nat) : s1I lm lb fm fb v x (f + 1) = if hs ((s1I lm lb fm fb v x f).1 v) (nI f) then (if ban lm lb fm fb f v then (upd (s1I lm lb fm fb v x f).1 v ((s1I lm lb fm fb v x f).1 v &&& ((1 <<< (nI f &&& 31)) ^^^ (-1))), (s1I lm lb fm fb v x f).2 + 1) else s1I lm lb fm fb v x f) else s1I lm lb fm fb v x f := rfl
def s1O (lm lb fm fb : Nat → Int32) (n : Nat) (lt nx : Nat → Int32) : Nat → ((Nat → Int32) × Int32) × (Nat → Int32) := z_fold (fun v y => (s1I lm lb fm fb v y.1 n, upd y.2 v ((s1I lm lb fm fb v y.1 n).1 v))) ((lt, 0), nx)
/-- second step -/
def s2F (lm lb fm fb fp : Nat → Int32) (n : Nat) (lt : Nat → Int32) (v to : Nat) (nx : Nat → Int32) : Nat → Nat → Int32 := z_fold (fun f a => if hs (lt v) (nI f) then (if comS lm lb fm fb fp n f to = -1 then a else upd a to (a to ||| (1 <<< (comS lm lb fm fb fp n f to &&& 31)))) else a) nx
theorem s2F_succ (lm lb fm fb fp : Nat → Int32) (n : Nat) (lt : Nat → Int32) (v to : Nat) (nx : Nat → Int32) (f : Nat) : s2F lm lb fm fb fp n lt v to nx (f + 1) = if hs (lt v) (nI f) then (if comS lm lb fm fb fp n f to = -1 then s2F lm lb fm fb fp n lt v to nx f else upd (s2F lm lb fm fb fp n lt v to nx f) to (s2F lm lb fm fb fp n lt v to nx f to ||| (1 <<< (comS lm lb fm fb fp n f to &&& 31)))) else s2F lm lb fm fb fp n lt v to nx f := rfl
def s2T (lw lm lb fm fb fp : Nat → Int32) (n : Nat) (lt : Nat → Int32) (v : Nat) (nx : Nat → Int32) : Nat → Nat → Int32 := z_fold (fun to a => if hs (lw v) (nI to) then s2F lm lb fm fb fp n lt v to a n else a) nx
theorem s2T_succ (lw lm lb fm fb fp : Nat → Int32) (n : Nat) (lt : Nat → Int32) (v : Nat) (nx : Nat → Int32) (to : Nat) : s2T lw lm lb fm fb fp n lt v nx (to + 1) = if hs (lw v) (nI to) then s2F lm lb fm fb fp n lt v to (s2T lw lm lb fm fb fp n lt v nx to) n else s2T lw lm lb fm fb fp n lt v nx to := rfl
def s2V (lw lm lb fm fb fp : Nat → Int32) (n : Nat) (lt nx : Nat → Int32) : Nat → Nat → Int32 := z_fold (fun v a => s2T lw lm lb fm fb fp n lt v a 6) nx
def seaN (lw lm lb fm fb fp : Nat → Int32) (n : Nat) (lt nx : Nat → Int32) : Nat → Int32 := s2V lw lm lb fm fb fp n (s1O lm lb fm fb n lt nx 6).1.1 (s1O lm lb fm fb n lt nx 6).2 6
def seaL (lw lm lb fm fb fp : Nat → Int32) (n : Nat) (lt nx : Nat → Int32) : Nat → Int32 := va_cpy (seaN lw lm lb fm fb fp n lt nx) (s1O lm lb fm fb n lt nx 6).1.1 0 0 6
def seaG (lm lb fm fb : Nat → Int32) (n : Nat) (lt nx : Nat → Int32) : Int32 := (s1O lm lb fm fb n lt nx 6).1.2
/-- seasons of the reference: told, next, silenced -/
def seaS (lw lm lb fm fb fp : Nat → Int32) (n : Nat) (x : (Nat → Int32) × (Nat → Int32) × Int32) : Nat → (Nat → Int32) × (Nat → Int32) × Int32 := z_fold (fun _ x => (seaL lw lm lb fm fb fp n x.1 x.2.1, seaN lw lm lb fm fb fp n x.1 x.2.1, x.2.2 + seaG lm lb fm fb n x.1 x.2.1)) x
theorem s1I_0 (lm lb fm fb : Nat → Int32) (v : Nat) (x : (Nat → Int32) × Int32) : s1I lm lb fm fb v x 0 = x := rfl
theorem s1O_0 (lm lb fm fb : Nat → Int32) (n : Nat) (lt nx : Nat → Int32) : s1O lm lb fm fb n lt nx 0 = ((lt, 0), nx) := rfl
theorem s1O_succ (lm lb fm fb : Nat → Int32) (n : Nat) (lt nx : Nat → Int32) (v : Nat) : s1O lm lb fm fb n lt nx (v + 1) = (s1I lm lb fm fb v (s1O lm lb fm fb n lt nx v).1 n, upd (s1O lm lb fm fb n lt nx v).2 v ((s1I lm lb fm fb v (s1O lm lb fm fb n lt nx v).1 n).1 v)) := rfl
theorem s2F_0 (lm lb fm fb fp : Nat → Int32) (n : Nat) (lt : Nat → Int32) (v to : Nat) (nx : Nat → Int32) : s2F lm lb fm fb fp n lt v to nx 0 = nx := rfl
theorem s2T_0 (lw lm lb fm fb fp : Nat → Int32) (n : Nat) (lt : Nat → Int32) (v : Nat) (nx : Nat → Int32) : s2T lw lm lb fm fb fp n lt v nx 0 = nx := rfl
theorem s2V_0 (lw lm lb fm fb fp : Nat → Int32) (n : Nat) (lt nx : Nat → Int32) : s2V lw lm lb fm fb fp n lt nx 0 = nx := rfl
theorem s2V_succ (lw lm lb fm fb fp : Nat → Int32) (n : Nat) (lt nx : Nat → Int32) (v : Nat) : s2V lw lm lb fm fb fp n lt nx (v + 1) = s2T lw lm lb fm fb fp n lt v (s2V lw lm lb fm fb fp n lt nx v) 6 := rfl
theorem seaS_0 (lw lm lb fm fb fp : Nat → Int32) (n : Nat) (x : (Nat → Int32) × (Nat → Int32) × Int32) : seaS lw lm lb fm fb fp n x 0 = x := rfl
theorem seaS_succ (lw lm lb fm fb fp : Nat → Int32) (n : Nat) (x : (Nat → Int32) × (Nat → Int32) × Int32) (k : Nat) : seaS lw lm lb fm fb fp n x (k + 1) = (seaL lw lm lb fm fb fp n (seaS lw lm lb fm fb fp n x k).1 (seaS lw lm lb fm fb fp n x k).2.1, seaN lw lm lb fm fb fp n (seaS lw lm lb fm fb fp n x k).1 (seaS lw lm lb fm fb fp n x k).2.1, (seaS lw lm lb fm fb fp n x k).2.2 + seaG lm lb fm fb n (seaS lw lm lb fm fb fp n x k).1 (seaS lw lm lb fm fb fp n x k).2.1) := rfl
/-- the reference's calls -/
def cdABm (w x : Int32) (n : Nat) (fb fp : Nat → Int32) : Nat := if fin w n && fin x 12 then (if hs (fb (ix w)) x then 2 else if chS fp (ix w) n ≤ 0 then 0 else 2) else 1
def anS (fp : Nat → Int32) (f : Nat) : Nat → Int32 × Int32 := z_fold (fun _ x => if x.2 = -1 then x else (x.1 ||| (1 <<< (x.2 &&& 31)), fp (ix x.2))) (0, nI f)
theorem anS_0 (fp : Nat → Int32) (f : Nat) : anS fp f 0 = (0, nI f) := rfl
theorem anS_succ (fp : Nat → Int32) (f k : Nat) : anS fp f (k + 1) = if (anS fp f k).2 = -1 then anS fp f k else ((anS fp f k).1 ||| (1 <<< ((anS fp f k).2 &&& 31)), fp (ix (anS fp f k).2)) := rfl
theorem anS_stop {fp : Nat → Int32} {f k : Nat} (h : (anS fp f k).2 = -1) : ∀ {q : Nat}, k ≤ q → anS fp f k = anS fp f q := by
  intro q hq
  induction q with
  | zero => rw [show k = 0 by omega]
  | succ q ih =>
    rcases Nat.lt_or_ge q k with g | g
    · rw [show k = q + 1 by omega]
    · rw [anS_succ, ← ih g, if_pos h]
theorem nI_ne_m1 {j : Nat} (h : j < 2 ^ 31) : ¬ nI j = -1 := fun e => by
  have h1 := nI_pos h
  rw [e] at h1
  exact h1 (by decide)
theorem gi_sub (n : Nat) : nI n - 1 = gi n := by
  rw [← gi_dec n, Int32.sub_eq_add_neg]; rfl
def unM (lw lm lb fm fb fp : Nat → Int32) (n f v : Nat) (x : (Nat → Int32) × (Nat → Int32)) : Nat → ((Nat → Int32) × (Nat → Int32)) × Int32 := z_fold (fun k x => if hs (x.1.1 v) (nI f) then x else ((seaL lw lm lb fm fb fp n x.1.1 x.1.2, seaN lw lm lb fm fb fp n x.1.1 x.1.2), nI (k + 1))) (x, nI 0)
theorem unM_0 (lw lm lb fm fb fp : Nat → Int32) (n f v : Nat) (x : (Nat → Int32) × (Nat → Int32)) : unM lw lm lb fm fb fp n f v x 0 = (x, nI 0) := rfl
theorem unM_succ (lw lm lb fm fb fp : Nat → Int32) (n f v : Nat) (x : (Nat → Int32) × (Nat → Int32)) (k : Nat) : unM lw lm lb fm fb fp n f v x (k + 1) = if hs ((unM lw lm lb fm fb fp n f v x k).1.1 v) (nI f) then unM lw lm lb fm fb fp n f v x k else ((seaL lw lm lb fm fb fp n (unM lw lm lb fm fb fp n f v x k).1.1 (unM lw lm lb fm fb fp n f v x k).1.2, seaN lw lm lb fm fb fp n (unM lw lm lb fm fb fp n f v x k).1.1 (unM lw lm lb fm fb fp n f v x k).1.2), nI (k + 1)) := rfl
theorem unM_stop {lw lm lb fm fb fp : Nat → Int32} {n f v : Nat} {x : (Nat → Int32) × (Nat → Int32)} {k : Nat} (h : hs ((unM lw lm lb fm fb fp n f v x k).1.1 v) (nI f) = true) : ∀ {q : Nat}, k ≤ q → unM lw lm lb fm fb fp n f v x k = unM lw lm lb fm fb fp n f v x q := by
  intro q hq
  induction q with
  | zero => rw [show k = 0 by omega]
  | succ q ih =>
    rcases Nat.lt_or_ge q k with g | g
    · rw [show k = q + 1 by omega]
    · rw [unM_succ, ← ih g, if_pos h]
def unR (y : Int32) : Int32 := if y ≤ 40 then y else -1
def kinM (a b : Int32) (n : Nat) : Int32 := if grF (a &&& b) n = -1 then -1 else pc (a ^^^ b)
/-- after(seasons) -/
def aftT (lw lm lb fm fb fp : Nat → Int32) (n q : Nat) (lt nx : Nat → Int32) : Int32 := allM (seaS lw lm lb fm fb fp n (lt, nx, 0) q).1 6
def favX (lt fm fb : Nat → Int32) (n : Nat) (b : Bool) (m : Nat) : Nat → Int32 := z_fold (fun f a => if (if b then decide (fm f = nI m) else hs (fb f) (nI m)) then a + plS lt f 6 else a) 0
theorem favX_succ (lt fm fb : Nat → Int32) (n : Nat) (b : Bool) (m f : Nat) : favX lt fm fb n b m (f + 1) = if (if b then decide (fm f = nI m) else hs (fb f) (nI m)) then favX lt fm fb n b m f + plS lt f 6 else favX lt fm fb n b m f := rfl
def favY (lt fm fb : Nat → Int32) (n : Nat) (b : Bool) : Nat → Int32 × Int32 := z_fold (fun m x => if x.2 < favX lt fm fb n b m n then (nI m, favX lt fm fb n b m n) else x) (-1, 0)
theorem favY_0 (lt fm fb : Nat → Int32) (n : Nat) (b : Bool) : favY lt fm fb n b 0 = (-1, 0) := rfl
theorem favY_succ (lt fm fb : Nat → Int32) (n : Nat) (b : Bool) (m : Nat) : favY lt fm fb n b (m + 1) = if (favY lt fm fb n b m).2 < favX lt fm fb n b m n then (nI m, favX lt fm fb n b m n) else favY lt fm fb n b m := rfl
def awS (lm lb fm fb : Nat → Int32) (v : Nat) : Nat → Int32 := z_fold (fun f a => a + (if ban lm lb fm fb f v then 0 else 1)) 0
theorem awS_succ (lm lb fm fb : Nat → Int32) (v f : Nat) : awS lm lb fm fb v (f + 1) = awS lm lb fm fb v f + (if ban lm lb fm fb f v then 0 else 1) := rfl
def fwM (fm : Nat → Int32) (w : Int32) : Nat → Int32 := z_fold (fun f a => a + (if fm f = w then 1 else 0)) 0
theorem fwM_succ (fm : Nat → Int32) (w : Int32) (f : Nat) : fwM fm w (f + 1) = fwM fm w f + (if fm f = w then 1 else 0) := rfl
def fwB (fb : Nat → Int32) (w : Int32) : Nat → Int32 := z_fold (fun f a => a + z_b (hs (fb f) w)) 0
theorem fwB_succ (fb : Nat → Int32) (w : Int32) (f : Nat) : fwB fb w (f + 1) = fwB fb w f + z_b (hs (fb f) w) := rfl
