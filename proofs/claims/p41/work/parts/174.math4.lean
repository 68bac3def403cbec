theorem allM_nI (lt : Nat → Int32) : ∀ k, ∃ j, j ≤ 32 * k ∧ allM lt k = nI j
  | 0 => ⟨0, Nat.le_refl _, rfl⟩
  | k + 1 => by
    obtain ⟨j, hj, e⟩ := allM_nI lt k
    have h : pcN (lt k) ≤ 32 := fb_ct_le (bi (lt k)) 32
    exact ⟨j + pcN (lt k), by omega, by rw [allM_succ, e]; exact nI_add j (pcN (lt k))⟩
theorem cpy_in (f g : Nat → Int32) {v : Nat} (hv : v < 6) : va_cpy f g 0 0 6 v = f v := by
  unfold va_cpy
  rw [if_pos (by omega)]
  congr 1
  omega
theorem cpy_out (f g : Nat → Int32) {v : Nat} (hv : 6 ≤ v) : va_cpy f g 0 0 6 v = g v := by
  unfold va_cpy
  rw [if_neg (by omega)]
theorem seaS_off {lw lm lb fm fb fp : Nat → Int32} {n : Nat} (hn : n ≤ 20) (x : (Nat → Int32) × (Nat → Int32) × Int32) {v : Nat} (hv : 6 ≤ v) : ∀ q, (seaS lw lm lb fm fb fp n x q).1 v = x.1 v
  | 0 => rfl
  | q + 1 => by
    rw [seaS_succ]
    show seaL lw lm lb fm fb fp n (seaS lw lm lb fm fb fp n x q).1 (seaS lw lm lb fm fb fp n x q).2.1 v = _
    rw [seaL_out hn _ _ hv, seaS_off hn x hv q]
theorem tu_on {x : Int32} {f : Nat} (hf : f < 32) (h : bi x f = false) : tu x (nI f) = x ||| ((1 : Int32) <<< (nI f &&& 31)) := bi_ext fun i hi => by
  unfold tu
  rw [bi_xor, bi_or, bi_bit hf hi]
  by_cases g : i = f
  · subst g; simp [h]
  · simp [g]
section PASS
variable {lw lm lb fm fb fp fv fa lt : Nat → Int32} {n : Nat}
theorem ps_eq (I : Inv n fp fv fa lw lt) (la lk nx : Nat → Int32) (hu : Int32) (q : Nat) : (livS lw lm (alS lm lb fm fb n la 6) fm fv n lt lk hu q).1 = (seaS lw lm lb fm fb fp n (lt, nx, hu) q).1 ∧ (livS lw lm (alS lm lb fm fb n la 6) fm fv n lt lk hu q).2.2.1 = (seaS lw lm lb fm fb fp n (lt, nx, hu) q).2.2 ∧ Tol n (livS lw lm (alS lm lb fm fb n la 6) fm fv n lt lk hu q).1 ∧ cntS (livS lw lm (alS lm lb fm fb n la 6) fm fv n lt lk hu q).1 (allS n) 6 = allM (seaS lw lm lb fm fb fp n (lt, nx, hu) q).1 6 := by
  have J := liv_sea (lk := lk) I.hn I.sym I.var (fun _ _ => rfl) (fun _ _ => rfl) (LA_al (la := la) (fm := fm) (fb := fb) I.hn (lm := lm) (lb := lb) (fun _ _ => rfl) (fun _ _ => rfl)) I.tol (fun _ _ => rfl) nx hu q
  have e : (livS lw lm (alS lm lb fm fb n la 6) fm fv n lt lk hu q).1 = (seaS lw lm lb fm fb fp n (lt, nx, hu) q).1 := funext fun v => by
    rcases Nat.lt_or_ge v 6 with h | h
    · exact J.told v h
    · rw [J.offc v h, J.offr v h]
  refine ⟨e, J.hu, by rw [e]; exact J.tol, ?_⟩
  rw [e]
  exact cnt_told I.hn J.tol (fun _ _ => rfl)
end PASS

