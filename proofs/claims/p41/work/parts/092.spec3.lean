/-- the reference's best pass: passes, told, next, kept; the best so far, its tellings -/
abbrev PM : Type := (Nat → Int32) × (Nat → Int32) × (Nat → Int32) × (Nat → Int32)
def orW (lw : Nat → Int32) (a b : Nat) : Nat → Int32 := upd (upd lw a (lw a ||| (1 <<< (nI b &&& 31)))) b (upd lw a (lw a ||| (1 <<< (nI b &&& 31))) b ||| (1 <<< (nI a &&& 31)))
def anW (lw : Nat → Int32) (a b : Nat) : Nat → Int32 := upd (upd lw a (lw a &&& ((1 <<< (nI b &&& 31)) ^^^ (-1)))) b (upd lw a (lw a &&& ((1 <<< (nI b &&& 31)) ^^^ (-1))) b &&& ((1 <<< (nI a &&& 31)) ^^^ (-1)))
def aftP (lm lb fm fb fp : Nat → Int32) (n q : Nat) (x : PM) : PM := (x.1, va_cpy (va_cpy x.2.1 x.2.2.2 0 0 6) (seaS x.1 lm lb fm fb fp n (x.2.1, x.2.2.1, 0) q).1 0 0 6, (seaS x.1 lm lb fm fb fp n (x.2.1, x.2.2.1, 0) q).2.1, va_cpy x.2.1 x.2.2.2 0 0 6)
def bmB (lm lb fm fb fp : Nat → Int32) (n q a b : Nat) (x : PM × Int32 × Int32) : PM × Int32 × Int32 :=
  if hs (x.1.1 a) (nI b) then x
  else if x.2.2 < aftT (orW x.1.1 a b) lm lb fm fb fp n q x.1.2.1 x.1.2.2.1 then ((anW (orW x.1.1 a b) a b, (aftP lm lb fm fb fp n q (orW x.1.1 a b, x.1.2)).2), 6 * nI a + nI b, aftT (orW x.1.1 a b) lm lb fm fb fp n q x.1.2.1 x.1.2.2.1)
  else ((anW (orW x.1.1 a b) a b, (aftP lm lb fm fb fp n q (orW x.1.1 a b, x.1.2)).2), x.2)
def bmI (lm lb fm fb fp : Nat → Int32) (n q a : Nat) (x : PM × Int32 × Int32) : Nat → PM × Int32 × Int32 := z_fold (fun d y => bmB lm lb fm fb fp n q a (a + 1 + d) y) x
theorem bmI_0 (lm lb fm fb fp : Nat → Int32) (n q a : Nat) (x : PM × Int32 × Int32) : bmI lm lb fm fb fp n q a x 0 = x := rfl
theorem bmI_succ (lm lb fm fb fp : Nat → Int32) (n q a : Nat) (x : PM × Int32 × Int32) (d : Nat) : bmI lm lb fm fb fp n q a x (d + 1) = bmB lm lb fm fb fp n q a (a + 1 + d) (bmI lm lb fm fb fp n q a x d) := rfl
def bmO (lm lb fm fb fp : Nat → Int32) (n q : Nat) (x : PM × Int32 × Int32) : Nat → PM × Int32 × Int32 := z_fold (fun a y => bmI lm lb fm fb fp n q a y (5 - a)) x
theorem bmO_0 (lm lb fm fb fp : Nat → Int32) (n q : Nat) (x : PM × Int32 × Int32) : bmO lm lb fm fb fp n q x 0 = x := rfl
theorem bmO_succ (lm lb fm fb fp : Nat → Int32) (n q : Nat) (x : PM × Int32 × Int32) (a : Nat) : bmO lm lb fm fb fp n q x (a + 1) = bmI lm lb fm fb fp n q a (bmO lm lb fm fb fp n q x a) (5 - a) := rfl
def bm0 (lm lb fm fb fp : Nat → Int32) (n q : Nat) (x : PM) : PM × Int32 × Int32 := (aftP lm lb fm fb fp n q x, -1, aftT x.1 lm lb fm fb fp n q x.2.1 x.2.2.1)
/-- the mean -/
def sumB (fb : Nat → Int32) : Nat → Int32 := z_fold (fun f a => a + pc (fb f)) 0
theorem sumB_0 (fb : Nat → Int32) : sumB fb 0 = 0 := rfl
theorem sumB_succ (fb : Nat → Int32) (f : Nat) : sumB fb (f + 1) = sumB fb f + pc (fb f) := rfl
theorem sumB_le (fb : Nat → Int32) : ∀ n : Nat, ∃ i : Nat, i ≤ 32 * n ∧ sumB fb n = nI i
  | 0 => ⟨0, Nat.le_refl _, rfl⟩
  | n + 1 => by
    obtain ⟨i, hi, e⟩ := sumB_le fb n
    have h : pcN (fb n) ≤ 32 := fb_ct_le (bi (fb n)) 32
    exact ⟨i + pcN (fb n), by omega, by rw [sumB_succ, e]; exact nI_add i (pcN (fb n))⟩
def meaD (fb : Nat → Int32) (n : Nat) : UInt64 := if nI n = 0 then 0 else FP.ddiv (FP.i2d (sumB fb n)) (FP.i2d (nI n))
theorem dv1 : ∀ i, i < 641 → ∀ j, j < 20 → vf_n64 (FP.ddiv (FP.i2d (nI i)) (FP.i2d (nI (j + 1)))) := by unfold vf_n64; decide +kernel
theorem mea_ok (fb : Nat → Int32) {n : Nat} (hn : n ≤ 20) (h : ¬ nI n = 0) : vf_n64 (FP.ddiv (FP.i2d (sumB fb n)) (FP.i2d (nI n))) := by
  obtain ⟨i, hi, e⟩ := sumB_le fb n
  have h0 : n ≠ 0 := fun e => h (by rw [e]; rfl)
  rw [e]
  have := dv1 i (by omega) (n - 1) (by omega)
  rw [show n - 1 + 1 = n by omega] at this
  exact this
