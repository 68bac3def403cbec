/-! ===== how many places have a property ===== -/
def fb_ct (p : Nat → Bool) : Nat → Nat
  | 0 => 0
  | n + 1 => fb_ct p n + (if p n then 1 else 0)
theorem fb_ct_succ (p : Nat → Bool) (n : Nat) : fb_ct p (n + 1) = fb_ct p n + (if p n then 1 else 0) := rfl
theorem fb_ct_le (p : Nat → Bool) : ∀ n, fb_ct p n ≤ n
  | 0 => Nat.le_refl _
  | n + 1 => by
    have h := fb_ct_le p n
    rw [fb_ct_succ]
    split <;> omega
theorem fb_ct_step (p : Nat → Bool) (m : Nat) : ∀ n, fb_ct p m ≤ fb_ct p (m + n)
  | 0 => Nat.le_refl _
  | n + 1 => by
    have h := fb_ct_step p m n
    show fb_ct p m ≤ fb_ct p (m + n + 1)
    rw [fb_ct_succ]
    omega
theorem fb_ct_mono (p : Nat → Bool) {m n : Nat} (h : m ≤ n) : fb_ct p m ≤ fb_ct p n := by
  have := fb_ct_step p m (n - m)
  rwa [Nat.add_sub_cancel' h] at this
theorem fb_ct_cong {p q : Nat → Bool} : ∀ {n : Nat}, (∀ k, k < n → p k = q k) → fb_ct p n = fb_ct q n
  | 0, _ => rfl
  | n + 1, h => by
    rw [fb_ct_succ, fb_ct_succ, fb_ct_cong (fun k hk => h k (by omega)), h n (by omega)]
/-- one place changed -/
theorem fb_ct_out (p : Nat → Bool) (b : Bool) {i n : Nat} (h : n ≤ i) : fb_ct (fun k => if k = i then b else p k) n = fb_ct p n :=
  fb_ct_cong fun k hk => if_neg (by omega)
theorem fb_ct_upd (p : Nat → Bool) (b : Bool) {i : Nat} : ∀ {n : Nat}, i < n → fb_ct (fun k => if k = i then b else p k) n + (if p i then 1 else 0) = fb_ct p n + (if b then 1 else 0)
  | 0, h => absurd h (Nat.not_lt_zero i)
  | n + 1, h => by
    rw [fb_ct_succ, fb_ct_succ]
    rcases Nat.lt_or_ge i n with q | q
    · have := fb_ct_upd p b q
      have e : (if n = i then b else p n) = p n := if_neg (by omega)
      rw [e]
      omega
    · have e : i = n := by omega
      subst e
      rw [fb_ct_out p b (Nat.le_refl _)]
      simp only [if_true]
      omega
theorem fb_ct_sub {p q : Nat → Bool} : ∀ {n : Nat}, (∀ k, k < n → p k = true → q k = true) → fb_ct p n ≤ fb_ct q n
  | 0, _ => Nat.le_refl _
  | n + 1, h => by
    have h1 := fb_ct_sub (n := n) (p := p) (q := q) (fun k hk => h k (by omega))
    have h2 := h n (by omega)
    rw [fb_ct_succ, fb_ct_succ]
    cases hp : p n <;> cases hq : q n <;> simp_all <;> omega
theorem fb_ct_or {p q : Nat → Bool} : ∀ {n : Nat}, (∀ k, k < n → ¬ (p k = true ∧ q k = true)) → fb_ct (fun k => p k || q k) n = fb_ct p n + fb_ct q n
  | 0, _ => rfl
  | n + 1, h => by
    have h1 := fb_ct_or (n := n) (p := p) (q := q) (fun k hk => h k (by omega))
    have h2 := h n (by omega)
    rw [fb_ct_succ, fb_ct_succ, fb_ct_succ, h1]
    cases hp : p n <;> cases hq : q n <;> simp_all <;> omega
theorem fb_ct_not (p : Nat → Bool) : ∀ n, fb_ct p n + fb_ct (fun k => !p k) n = n
  | 0 => rfl
  | n + 1 => by
    have h := fb_ct_not p n
    rw [fb_ct_succ, fb_ct_succ]
    cases p n <;> simp <;> omega
theorem fb_ct_split (p : Nat → Bool) (m : Nat) : ∀ n, fb_ct p (m + n) = fb_ct p m + fb_ct (fun k => p (m + k)) n
  | 0 => rfl
  | n + 1 => by
    have h := fb_ct_split p m n
    show fb_ct p (m + n + 1) = _
    rw [fb_ct_succ, fb_ct_succ, h, Nat.add_assoc]
theorem fb_ct_zero {p : Nat → Bool} : ∀ {n : Nat}, fb_ct p n = 0 ↔ ∀ k, k < n → p k = false
  | 0 => ⟨fun _ k hk => absurd hk (Nat.not_lt_zero k), fun _ => rfl⟩
  | n + 1 => by
    have h := fb_ct_zero (p := p) (n := n)
    rw [fb_ct_succ]
    constructor
    · intro e k hk
      have e1 : fb_ct p n = 0 := by omega
      rcases Nat.lt_or_ge k n with q | q
      · exact h.mp e1 k q
      · have ek : k = n := by omega
        subst ek
        cases hp : p k
        · rfl
        · simp [hp] at e
    · intro a
      rw [h.mpr (fun k hk => a k (by omega)), a n (by omega)]
      rfl
theorem fb_ct_pos {p : Nat → Bool} {n : Nat} : 0 < fb_ct p n ↔ ∃ k, k < n ∧ p k = true := by
  constructor
  · intro h
    refine Classical.byContradiction fun hx => ?_
    have := fb_ct_zero.mpr (fun k hk => by
      cases hp : p k
      · rfl
      · exact absurd ⟨k, hk, hp⟩ hx : ∀ k, k < n → p k = false)
    omega
  · rintro ⟨k, hk, hp⟩
    rcases Nat.eq_zero_or_pos (fb_ct p n) with e | e
    · have := fb_ct_zero.mp e k hk
      rw [this] at hp
      cases hp
    · exact e
theorem fb_ct_all {p : Nat → Bool} {n : Nat} : fb_ct p n = n ↔ ∀ k, k < n → p k = true := by
  have h := fb_ct_not p n
  constructor
  · intro e k hk
    have z : fb_ct (fun k => !p k) n = 0 := by omega
    have := fb_ct_zero.mp z k hk
    cases hp : p k
    · simp [hp] at this
    · rfl
  · intro a
    have z : fb_ct (fun k => !p k) n = 0 := fb_ct_zero.mpr (fun k hk => by simp [a k hk])
    omega
/-- the k-th place with the property -/
theorem fb_ct_kth {p : Nat → Bool} {k : Nat} : ∀ {n : Nat}, k < fb_ct p n → ∃ i, i < n ∧ p i = true ∧ fb_ct p i = k
  | 0, h => absurd h (Nat.not_lt_zero k)
  | n + 1, h => by
    rcases Nat.lt_or_ge k (fb_ct p n) with q | q
    · obtain ⟨i, h1, h2⟩ := fb_ct_kth q
      exact ⟨i, by omega, h2⟩
    · rw [fb_ct_succ] at h
      cases hp : p n
      · simp [hp] at h; omega
      · simp [hp] at h
        exact ⟨n, by omega, hp, by omega⟩
theorem fb_ct_kth_one {p : Nat → Bool} {i j : Nat} (hi : p i = true) (hj : p j = true) (e : fb_ct p i = fb_ct p j) : i = j := by
  have key : ∀ a b : Nat, a < b → p a = true → fb_ct p a < fb_ct p b := by
    intro a b hab ha
    have h := fb_ct_mono p (show a + 1 ≤ b from hab)
    rw [fb_ct_succ, ha] at h
    simp at h
    omega
  rcases Nat.lt_trichotomy i j with q | q | q
  · have := key i j q hi; omega
  · exact q
  · have := key j i q hj; omega
/-! ===== sums over a range: one place changed, parts, bounds ===== -/
def fb_sm (f : Nat → Nat) : Nat → Nat
  | 0 => 0
  | n + 1 => fb_sm f n + f n
theorem fb_sm_succ (f : Nat → Nat) (n : Nat) : fb_sm f (n + 1) = fb_sm f n + f n := rfl
theorem fb_sm_cong {f g : Nat → Nat} : ∀ {n : Nat}, (∀ k, k < n → f k = g k) → fb_sm f n = fb_sm g n
  | 0, _ => rfl
  | n + 1, h => by rw [fb_sm_succ, fb_sm_succ, fb_sm_cong (fun k hk => h k (by omega)), h n (by omega)]
theorem fb_sm_out (f : Nat → Nat) (v : Nat) {i n : Nat} (h : n ≤ i) : fb_sm (fun k => if k = i then v else f k) n = fb_sm f n :=
  fb_sm_cong fun k hk => if_neg (by omega)
theorem fb_sm_upd (f : Nat → Nat) (v : Nat) {i : Nat} : ∀ {n : Nat}, i < n → fb_sm (fun k => if k = i then v else f k) n + f i = fb_sm f n + v
  | 0, h => absurd h (Nat.not_lt_zero i)
  | n + 1, h => by
    rw [fb_sm_succ, fb_sm_succ]
    rcases Nat.lt_or_ge i n with q | q
    · have := fb_sm_upd f v q
      have e : (if n = i then v else f n) = f n := if_neg (by omega)
      rw [e]
      omega
    · have e : i = n := by omega
      subst e
      rw [fb_sm_out f v (Nat.le_refl _)]
      simp only [if_true]
      omega
theorem fb_sm_add (f g : Nat → Nat) : ∀ n, fb_sm (fun k => f k + g k) n = fb_sm f n + fb_sm g n
  | 0 => rfl
  | n + 1 => by
    have h := fb_sm_add f g n
    rw [fb_sm_succ, fb_sm_succ, fb_sm_succ, h]
    omega
theorem fb_sm_le {f g : Nat → Nat} : ∀ {n : Nat}, (∀ k, k < n → f k ≤ g k) → fb_sm f n ≤ fb_sm g n
  | 0, _ => Nat.le_refl _
  | n + 1, h => by
    have h1 := fb_sm_le (n := n) (f := f) (g := g) (fun k hk => h k (by omega))
    have h2 := h n (by omega)
    rw [fb_sm_succ, fb_sm_succ]
    omega
theorem fb_sm_const (c : Nat) : ∀ n, fb_sm (fun _ => c) n = n * c
  | 0 => by rw [Nat.zero_mul]; rfl
  | n + 1 => by rw [fb_sm_succ, fb_sm_const c n, Nat.succ_mul]
theorem fb_sm_bound {f : Nat → Nat} {c n : Nat} (h : ∀ k, k < n → f k ≤ c) : fb_sm f n ≤ n * c := by
  rw [← fb_sm_const c n]
  exact fb_sm_le h
theorem fb_sm_mono (f : Nat → Nat) (m : Nat) : ∀ n, fb_sm f m ≤ fb_sm f (m + n)
  | 0 => Nat.le_refl _
  | n + 1 => by
    have h := fb_sm_mono f m n
    show fb_sm f m ≤ fb_sm f (m + n + 1)
    rw [fb_sm_succ]
    omega
theorem fb_sm_part (f : Nat → Nat) {i n : Nat} (h : i < n) : fb_sm f i + f i ≤ fb_sm f n := by
  have := fb_sm_mono f (i + 1) (n - (i + 1))
  rw [fb_sm_succ, show i + 1 + (n - (i + 1)) = n by omega] at this
  exact this
theorem fb_sm_split (f : Nat → Nat) (m : Nat) : ∀ n, fb_sm f (m + n) = fb_sm f m + fb_sm (fun k => f (m + k)) n
  | 0 => rfl
  | n + 1 => by
    have h := fb_sm_split f m n
    show fb_sm f (m + n + 1) = _
    rw [fb_sm_succ, fb_sm_succ, h, Nat.add_assoc]
theorem fb_sm_zero {f : Nat → Nat} {n : Nat} (h : fb_sm f n = 0) : ∀ k, k < n → f k = 0 := fun k hk => by
  have := fb_sm_part f hk
  omega
/-! what the methods compute, in plain functions -/
/-- the steps 0 .. n-1 of a counted loop -/
def z_fold {σ : Type} (f : Nat → σ → σ) (s0 : σ) : Nat → σ
  | 0 => s0
  | n + 1 => f n (z_fold f s0 n)
theorem z_fold_succ {σ : Type} (f : Nat → σ → σ) (s0 : σ) (n : Nat) : z_fold f s0 (n + 1) = f n (z_fold f s0 n) := rfl
/-- a set has a number -/
def hs (x n : Int32) : Bool := decide (¬ (x >>> (n &&& 31)) &&& 1 = 0)
def bitI (n : Int32) : Int32 := 1 <<< (n &&& 31)
/-- the bits of a number, counted -/
def bi (x : Int32) (i : Nat) : Bool := x.toBitVec.getLsbD i
def pcN (x : Int32) : Nat := fb_ct (bi x) 32
def pc (x : Int32) : Int32 := nI (pcN x)
def tu (x n : Int32) : Int32 := x ^^^ (1 <<< (n &&& 31))
def sal (x : Int32) : Int32 := x &&& (-x)
def cntS (lt : Nat → Int32) (w : Int32) : Nat → Int32 := z_fold (fun v a => a + pc (lt v &&& w)) 0
def allS (n : Nat) : Int32 := 1 <<< (nI n &&& 31) - 1
def ban (lm lb fm fb : Nat → Int32) (f v : Nat) : Bool := hs (lm v) (fm f) || decide (¬ (lb v &&& fb f) = 0)
/-- the book -/
def wrV (fv : Nat → Int32) (n : Nat) (pw : Int32) : Nat → Int32 := if pw < 0 then upd fv n 0 else upd (upd fv n 0) pw.toNatClampNeg (upd fv n 0 pw.toNatClampNeg ||| 1 <<< (nI n &&& 31))
def wrA (fa : Nat → Int32) (n : Nat) (pw : Int32) : Nat → Int32 := if pw < 0 then upd fa n (1 <<< (nI n &&& 31)) else upd (upd fa n (1 <<< (nI n &&& 31))) n (upd fa n (1 <<< (nI n &&& 31)) n ||| upd fa n (1 <<< (nI n &&& 31)) pw.toNatClampNeg)
def wmS (fm : Nat → Int32) (w : Int32) : Nat → Int32 := z_fold (fun f a => if fm f = w then a ||| 1 <<< (nI f &&& 31) else a) 0
def wbS (fb : Nat → Int32) (w : Int32) : Nat → Int32 := z_fold (fun f a => if hs (fb f) w then a ||| 1 <<< (nI f &&& 31) else a) 0
/-- the land -/
def welS (lm lb fm fb : Nat → Int32) (v : Nat) : Nat → Int32 := z_fold (fun f a => if ban lm lb fm fb f v then a else a ||| 1 <<< (nI f &&& 31)) 0
def cpS (g f : Nat → Int32) : Nat → Nat → Int32 := z_fold (fun v a => upd a v (g v)) f
def turnW (lw : Nat → Int32) (a b : Nat) : Nat → Int32 := upd (upd lw a (tu (lw a) (nI b))) b (tu (upd lw a (tu (lw a) (nI b)) b) (nI a))
def hushK (la lt lk : Nat → Int32) : Nat → Nat → Int32 := z_fold (fun v a => upd a v (lt v &&& la v)) lk
def hushH (la lt : Nat → Int32) (hu : Int32) : Nat → Int32 := z_fold (fun v a => a + pc (lt v &&& (la v ^^^ (-1)))) hu
def arrS (lw lk : Nat → Int32) (v : Nat) : Nat → Int32 := z_fold (fun w a => if hs (lw v) (nI w) then a ||| lk w else a) 0
def admS (lm la fm fv : Nat → Int32) (v : Nat) (x : Int32) : Nat → Int32 := z_fold (fun f a => if hs (x &&& (la v ^^^ (-1))) (nI f) then (if hs (lm v) (fm f) then a else a ||| sal (fv f &&& la v)) else a) (x &&& la v)
def thenS (lw lm la lk fm fv : Nat → Int32) (n v : Nat) : Int32 := lk v ||| admS lm la fm fv v (arrS lw lk v 6) n
def sprT (lw lm la lk fm fv : Nat → Int32) (n : Nat) (lt : Nat → Int32) : Nat → Nat → Int32 := z_fold (fun v a => upd a v (thenS lw lm la lk fm fv n v)) lt
def sprC (lw lm la lk fm fv : Nat → Int32) (n : Nat) (lt : Nat → Int32) : Nat → Bool := z_fold (fun v a => a || !decide (thenS lw lm la lk fm fv n v = sprT lw lm la lk fm fv n lt v v)) false
theorem sprC_succ (lw lm la lk fm fv : Nat → Int32) (n : Nat) (lt : Nat → Int32) (k : Nat) : sprC lw lm la lk fm fv n lt (k + 1) = (sprC lw lm la lk fm fv n lt k || !decide (thenS lw lm la lk fm fv n k = sprT lw lm la lk fm fv n lt k k)) := rfl
def alS (lm lb fm fb : Nat → Int32) (n : Nat) (la : Nat → Int32) : Nat → Nat → Int32 := z_fold (fun v a => upd a v (welS lm lb fm fb v n)) la
def stepS (lw lm la fm fv : Nat → Int32) (n : Nat) (x : (Nat → Int32) × (Nat → Int32) × Int32 × Bool) : (Nat → Int32) × (Nat → Int32) × Int32 × Bool := (sprT lw lm la (hushK la x.1 x.2.1 6) fm fv n x.1 6, hushK la x.1 x.2.1 6, hushH la x.1 x.2.2.1 6, sprC lw lm la (hushK la x.1 x.2.1 6) fm fv n x.1 6)
def livS (lw lm la fm fv : Nat → Int32) (n : Nat) (lt lk : Nat → Int32) (hu : Int32) : Nat → (Nat → Int32) × (Nat → Int32) × Int32 × Bool := z_fold (fun _ x => if x.2.2.2 then stepS lw lm la fm fv n x else x) (lt, lk, hu, true)
theorem livS_succ (lw lm la fm fv : Nat → Int32) (n : Nat) (lt lk : Nat → Int32) (hu : Int32) (k : Nat) : livS lw lm la fm fv n lt lk hu (k + 1) = if (livS lw lm la fm fv n lt lk hu k).2.2.2 then stepS lw lm la fm fv n (livS lw lm la fm fv n lt lk hu k) else livS lw lm la fm fv n lt lk hu k := rfl
theorem livS_stop {lw lm la fm fv : Nat → Int32} {n : Nat} {lt lk : Nat → Int32} {hu : Int32} {k : Nat} (h : (livS lw lm la fm fv n lt lk hu k).2.2.2 = false) : ∀ {q : Nat}, k ≤ q → livS lw lm la fm fv n lt lk hu k = livS lw lm la fm fv n lt lk hu q := by
  intro q hq
  induction q with
  | zero => rw [show k = 0 by omega]
  | succ q ih =>
    rcases Nat.lt_or_ge q k with g | g
    · rw [show k = q + 1 by omega]
    · rw [livS_succ, ← ih g, h]; rfl
/-- ranges and codes -/
def fin (x : Int32) (n : Nat) : Bool := decide (¬ x < 0) && decide (x < nI n)
def ix (x : Int32) : Nat := x.toNatClampNeg
theorem ix_nI {j : Nat} (h : j < 2 ^ 31) : ix (nI j) = j := nI_clamp h
theorem fin_ix {x : Int32} {n : Nat} (h : fin x n = true) (hn : n < 2 ^ 31) : ∃ j : Nat, j < n ∧ x = nI j := by
  simp only [fin, Bool.and_eq_true, decide_eq_true_eq] at h
  obtain ⟨j, hj, rfl⟩ := nI_of h.1
  exact ⟨j, (nI_ltI hj hn).mp h.2, rfl⟩
theorem fin_nI {j n : Nat} (hj : j < n) (hn : n < 2 ^ 31) : fin (nI j) n = true := by
  simp only [fin, Bool.and_eq_true, decide_eq_true_eq]
  exact ⟨nI_pos (by omega), (nI_ltI (by omega) hn).mpr hj⟩
def sea (x y : Int32) : Bool := decide (¬ x < 1) && decide (x ≤ y)
theorem sea_ix {x y : Int32} {m : Nat} (h : sea x y = true) (hy : y = nI m) (hm : m < 2 ^ 31) : ∃ q : Nat, q ≤ m ∧ 1 ≤ q ∧ x = nI q := by
  simp only [sea, Bool.and_eq_true, decide_eq_true_eq] at h
  have h0 : ¬ x < 0 := fun g => h.1 (by
    have h1 : x.toInt < (0 : Int32).toInt := Int32.lt_iff_toInt_lt.mp g
    have h2 : (0 : Int32).toInt = 0 := by decide
    have h3 : (1 : Int32).toInt = 1 := by decide
    exact Int32.lt_iff_toInt_lt.mpr (by omega))
  obtain ⟨j, hj, rfl⟩ := nI_of h0
  subst hy
  refine ⟨j, (nI_leI hj hm).mp h.2, Nat.one_le_iff_ne_zero.mpr (fun e => h.1 (by rw [e]; decide)), rfl⟩
def z_exc (e1 e2 : String) (c : Nat) (E : String) : Prop := (c = 1 ∧ E = e1) ∨ (c = 2 ∧ E = e2)
def gi : Nat → Int32
  | 0 => -1
  | k + 1 => nI k
def grF (w : Int32) : Nat → Int32
  | 0 => -1
  | k + 1 => if hs w (nI k) then nI k else grF w k
/-- the class's calls -/
def cdAF (w x y : Int32) (n : Nat) : Nat := if fin w 10 && (fin x 12 && fin y 6) then (if n < 20 then 0 else 2) else 1
def cdAB (w x : Int32) (n : Nat) (fb fv : Nat → Int32) : Nat := if fin w n && fin x 12 then (if hs (fb (ix w)) x then 2 else if fv (ix w) = 0 then 0 else 2) else 1
def abF (fb : Nat → Int32) (f : Nat) (x : Int32) : Nat → Int32 := upd fb f (fb f ||| 1 <<< (x &&& 31))
def cdAV (w x y z : Int32) (n : Nat) (fb : Nat → Int32) : Nat := if fin w n && (fin x 12 && (fin y 12 && fin z 6)) then (if n < 20 then (if hs (fb (ix w)) x then (if hs (fb (ix w)) y then 2 else 0) else 2) else 2) else 1
def cdTP (w x : Int32) : Nat := if fin w 6 && fin x 6 then (if w = x then 2 else 0) else 1
def cd1 (a : Bool) : Nat := if a then 0 else 1
def cdTell (w x : Int32) (n : Nat) (lm lb lt fm fb : Nat → Int32) : Nat := if fin w n && fin x 6 then (if hs (lt (ix x)) w then 2 else if ban lm lb fm fb (ix w) (ix x) then 2 else 0) else 1
def cdForg (w x : Int32) (n : Nat) (lt : Nat → Int32) : Nat := if fin w n && fin x 6 then (if hs (lt (ix x)) w then 0 else 2) else 1
def favM (lt fm : Nat → Int32) (n : Nat) : Nat → Int32 × Int32 := z_fold (fun m x => if cntS lt (wmS fm (nI m) n) 6 ≤ x.2 then x else (nI m, cntS lt (wmS fm (nI m) n) 6)) (-1, 0)
theorem favM_succ (lt fm : Nat → Int32) (n k : Nat) : favM lt fm n (k + 1) = if cntS lt (wmS fm (nI k) n) 6 ≤ (favM lt fm n k).2 then favM lt fm n k else (nI k, cntS lt (wmS fm (nI k) n) 6) := rfl
def favB (lt fb : Nat → Int32) (n : Nat) : Nat → Int32 × Int32 := z_fold (fun m x => if cntS lt (wbS fb (nI m) n) 6 ≤ x.2 then x else (nI m, cntS lt (wbS fb (nI m) n) 6)) (-1, 0)
theorem favB_succ (lt fb : Nat → Int32) (n k : Nat) : favB lt fb n (k + 1) = if cntS lt (wbS fb (nI k) n) 6 ≤ (favB lt fb n k).2 then favB lt fb n k else (nI k, cntS lt (wbS fb (nI k) n) 6) := rfl
def kinS (a b : Int32) : Int32 := if a &&& b = 0 then -1 else pc (a ^^^ b)
theorem gi_dec (k : Nat) : nI k + Int32.ofInt (-1) = gi k := by
  cases k with
  | zero => decide
  | succ k => show nI (k + 1) + Int32.ofInt (-1) = nI k; rw [← nI_pred k, Int32.sub_eq_add_neg]; rfl
/-- checksums -/
def mx (d : Int64) (x : Int32) : Int64 := d * 31 + x.toInt64
def foldB (p : Nat → Bool) (d : Int64) : Nat → Int64 := z_fold (fun k a => mx a (z_b (p k))) d
theorem foldB_succ (p : Nat → Bool) (d : Int64) (k : Nat) : foldB p d (k + 1) = mx (foldB p d k) (z_b (p k)) := rfl
def mfS (lm lb lt fm fb fh fp fv : Nat → Int32) (d : Int64) (f : Nat) : Int64 := foldB (fun v => ban lm lb fm fb f v) (foldB (fun v => hs (lt v) (nI f)) (foldB (fun b => hs (fb f) (nI b)) (mx (mx (mx (mx (mx (mx d (fm f)) (pc (fb f))) (fh f)) (fp f)) (pc (fv f))) (cntS lt (1 <<< (nI f &&& 31)) 6)) 12) 6) 6
def mvS (lw lm lb lt fm fb : Nat → Int32) (n : Nat) (d : Int64) (v : Nat) : Int64 := foldB (fun o => hs (lw v) (nI o)) (mx (mx (mx d (pc (lt v))) (pc (welS lm lb fm fb v n))) (pc (lm v) + pc (lb v))) 6
def dg0 (lt fm fb : Nat → Int32) (n : Nat) (se hu : Int32) : Int64 := mx (mx (mx (mx (mx (mx 1861 (nI n)) se) (cntS lt (allS n) 6)) hu) (favM lt fm n 10).1) (favB lt fb n 12).1
def dg1 (lm lb lt fm fb fh fp fv : Nat → Int32) (d : Int64) : Nat → Int64 := z_fold (fun f a => mfS lm lb lt fm fb fh fp fv a f) d
def dg2 (lw lm lb lt fm fb : Nat → Int32) (n : Nat) (d : Int64) : Nat → Int64 := z_fold (fun v a => mvS lw lm lb lt fm fb n a v) d
/-- the trial land: ways, morals, beasts, told, allowed, kept, hushed -/
abbrev TS : Type := (Nat → Int32) × (Nat → Int32) × (Nat → Int32) × (Nat → Int32) × (Nat → Int32) × (Nat → Int32) × Int32
def becT (lw lm lb lt : Nat → Int32) (hu : Int32) (t : TS) : TS := (cpS lw t.1 6, cpS lm t.2.1 6, cpS lb t.2.2.1 6, cpS lt t.2.2.2.1 6, t.2.2.2.2.1, t.2.2.2.2.2.1, hu)
def trnT (i j : Nat) (t : TS) : TS := (turnW t.1 i j, t.2)
def livL (fm fb fv : Nat → Int32) (n q : Nat) (t : TS) : (Nat → Int32) × (Nat → Int32) × Int32 × Bool := livS t.1 t.2.1 (alS t.2.1 t.2.2.1 fm fb n t.2.2.2.2.1 6) fm fv n t.2.2.2.1 t.2.2.2.2.2.1 t.2.2.2.2.2.2 q
def livT (fm fb fv : Nat → Int32) (n q : Nat) (t : TS) : TS := (t.1, t.2.1, t.2.2.1, (livL fm fb fv n q t).1, alS t.2.1 t.2.2.1 fm fb n t.2.2.2.2.1 6, (livL fm fb fv n q t).2.1, (livL fm fb fv n q t).2.2.1)
def telT (n : Nat) (t : TS) : Int32 := cntS t.2.2.2.1 (allS n) 6
def untS (fm fb fv : Nat → Int32) (n f v : Nat) (t : TS) : Nat → TS × Int32 := z_fold (fun k x => if hs (x.1.2.2.2.1 v) (nI f) then x else (livT fm fb fv n 1 x.1, nI (k + 1))) (t, nI 0)
theorem untS_succ (fm fb fv : Nat → Int32) (n f v : Nat) (t : TS) (k : Nat) : untS fm fb fv n f v t (k + 1) = if hs ((untS fm fb fv n f v t k).1.2.2.2.1 v) (nI f) then untS fm fb fv n f v t k else (livT fm fb fv n 1 (untS fm fb fv n f v t k).1, nI (k + 1)) := rfl
theorem untS_stop {fm fb fv : Nat → Int32} {n f v : Nat} {t : TS} {k : Nat} (h : hs ((untS fm fb fv n f v t k).1.2.2.2.1 v) (nI f) = true) : ∀ {q : Nat}, k ≤ q → untS fm fb fv n f v t k = untS fm fb fv n f v t q := by
  intro q hq
  induction q with
  | zero => rw [show k = 0 by omega]
  | succ q ih =>
    rcases Nat.lt_or_ge q k with g | g
    · rw [show k = q + 1 by omega]
    · rw [untS_succ, ← ih g, if_pos h]
def untR (fm fb fv : Nat → Int32) (n f v : Nat) (t : TS) : Int32 := if hs ((untS fm fb fv n f v t 40).1.2.2.2.1 v) (nI f) then (untS fm fb fv n f v t 40).2 else -1
/-- the best pass: the trial land, the best so far, its tellings -/
def bpT (lw lm lb lt : Nat → Int32) (hu : Int32) (fm fb fv : Nat → Int32) (n q a b : Nat) (t : TS) : TS := livT fm fb fv n q (trnT a b (becT lw lm lb lt hu t))
def bpB (lw lm lb lt : Nat → Int32) (hu : Int32) (fm fb fv : Nat → Int32) (n q a b : Nat) (x : TS × Int32 × Int32) : TS × Int32 × Int32 :=
  if hs (lw a) (nI b) then (if 0 ≤ x.2.2 then x else (x.1, 6 * nI a + nI b, 0))
  else if telT n (bpT lw lm lb lt hu fm fb fv n q a b x.1) ≤ x.2.2 then (bpT lw lm lb lt hu fm fb fv n q a b x.1, x.2) else (bpT lw lm lb lt hu fm fb fv n q a b x.1, 6 * nI a + nI b, telT n (bpT lw lm lb lt hu fm fb fv n q a b x.1))
def bpI (lw lm lb lt : Nat → Int32) (hu : Int32) (fm fb fv : Nat → Int32) (n q a : Nat) (x : TS × Int32 × Int32) : Nat → TS × Int32 × Int32 := z_fold (fun d y => bpB lw lm lb lt hu fm fb fv n q a (a + 1 + d) y) x
theorem bpI_succ (lw lm lb lt : Nat → Int32) (hu : Int32) (fm fb fv : Nat → Int32) (n q a : Nat) (x : TS × Int32 × Int32) (d : Nat) : bpI lw lm lb lt hu fm fb fv n q a x (d + 1) = bpB lw lm lb lt hu fm fb fv n q a (a + 1 + d) (bpI lw lm lb lt hu fm fb fv n q a x d) := rfl
def bpO (lw lm lb lt : Nat → Int32) (hu : Int32) (fm fb fv : Nat → Int32) (n q : Nat) (x : TS × Int32 × Int32) : Nat → TS × Int32 × Int32 := z_fold (fun a y => bpI lw lm lb lt hu fm fb fv n q a y (5 - a)) x
def bp0 (lw lm lb lt : Nat → Int32) (hu : Int32) (fm fb fv : Nat → Int32) (n q : Nat) (t : TS) : TS × Int32 × Int32 := (livT fm fb fv n q (becT lw lm lb lt hu t), -1, telT n (livT fm fb fv n q (becT lw lm lb lt hu t)))
theorem dg1_0 (lm lb lt fm fb fh fp fv : Nat → Int32) (d : Int64) : dg1 lm lb lt fm fb fh fp fv d 0 = d := rfl
theorem dg1_succ (lm lb lt fm fb fh fp fv : Nat → Int32) (d : Int64) (k : Nat) : dg1 lm lb lt fm fb fh fp fv d (k + 1) = mfS lm lb lt fm fb fh fp fv (dg1 lm lb lt fm fb fh fp fv d k) k := rfl
theorem dg2_0 (lw lm lb lt fm fb : Nat → Int32) (n : Nat) (d : Int64) : dg2 lw lm lb lt fm fb n d 0 = d := rfl
theorem dg2_succ (lw lm lb lt fm fb : Nat → Int32) (n : Nat) (d : Int64) (k : Nat) : dg2 lw lm lb lt fm fb n d (k + 1) = mvS lw lm lb lt fm fb n (dg2 lw lm lb lt fm fb n d k) k := rfl
theorem untS_0 (fm fb fv : Nat → Int32) (n f v : Nat) (t : TS) : untS fm fb fv n f v t 0 = (t, nI 0) := rfl
theorem bpI_0 (lw lm lb lt : Nat → Int32) (hu : Int32) (fm fb fv : Nat → Int32) (n q a : Nat) (x : TS × Int32 × Int32) : bpI lw lm lb lt hu fm fb fv n q a x 0 = x := rfl
theorem bpO_0 (lw lm lb lt : Nat → Int32) (hu : Int32) (fm fb fv : Nat → Int32) (n q : Nat) (x : TS × Int32 × Int32) : bpO lw lm lb lt hu fm fb fv n q x 0 = x := rfl
theorem bpO_succ (lw lm lb lt : Nat → Int32) (hu : Int32) (fm fb fv : Nat → Int32) (n q : Nat) (x : TS × Int32 × Int32) (a : Nat) : bpO lw lm lb lt hu fm fb fv n q x (a + 1) = bpI lw lm lb lt hu fm fb fv n q a (bpO lw lm lb lt hu fm fb fv n q x a) (5 - a) := rfl
