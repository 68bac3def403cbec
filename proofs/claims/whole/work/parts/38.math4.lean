/-! the best pass -/
theorem allM_nI (lt : Nat → Int32) : ∀ k, ∃ j, j ≤ 32 * k ∧ allM lt k = nI j
  | 0 => ⟨0, Nat.le_refl _, rfl⟩
  | k + 1 => by
    obtain ⟨j, hj, e⟩ := allM_nI lt k
    have h : pcN (lt k) ≤ 32 := fb_ct_le (bi (lt k)) 32
    exact ⟨j + pcN (lt k), by omega, by rw [allM_succ, e]; exact nI_add j (pcN (lt k))⟩
theorem aft_pos (lw lm lb fm fb fp : Nat → Int32) (n q : Nat) (lt nx : Nat → Int32) : 0 ≤ aftT lw lm lb fm fb fp n q lt nx := by
  unfold aftT
  obtain ⟨j, hj, e⟩ := allM_nI (seaS lw lm lb fm fb fp n (lt, nx, 0) q).1 6
  rw [e]; exact nI_pos' (by omega)
theorem cpy_in (f g : Nat → Int32) {v : Nat} (hv : v < 6) : va_cpy f g 0 0 6 v = f v := by
  unfold va_cpy
  rw [if_pos (by omega)]
  congr 1
  omega
theorem cpy_out (f g : Nat → Int32) {v : Nat} (hv : 6 ≤ v) : va_cpy f g 0 0 6 v = g v := by
  unfold va_cpy
  rw [if_neg (by omega)]
/-- what was kept comes back -/
theorem cpy_back (lt kp X : Nat → Int32) (h : ∀ v, 6 ≤ v → X v = lt v) : va_cpy (va_cpy lt kp 0 0 6) X 0 0 6 = lt := funext fun v => by
  rcases Nat.lt_or_ge v 6 with g | g
  · rw [cpy_in _ _ g, cpy_in _ _ g]
  · rw [cpy_out _ _ g, h v g]
theorem seaS_off {lw lm lb fm fb fp : Nat → Int32} {n : Nat} (hn : n ≤ 20) (x : (Nat → Int32) × (Nat → Int32) × Int32) {v : Nat} (hv : 6 ≤ v) : ∀ q, (seaS lw lm lb fm fb fp n x q).1 v = x.1 v
  | 0 => rfl
  | q + 1 => by
    rw [seaS_succ]
    show seaL lw lm lb fm fb fp n (seaS lw lm lb fm fb fp n x q).1 (seaS lw lm lb fm fb fp n x q).2.1 v = _
    rw [seaL_out hn _ _ hv, seaS_off hn x hv q]
theorem unM_off {lw lm lb fm fb fp : Nat → Int32} {n : Nat} (hn : n ≤ 20) (f w : Nat) (x : (Nat → Int32) × (Nat → Int32)) {v : Nat} (hv : 6 ≤ v) : ∀ q, (unM lw lm lb fm fb fp n f w x q).1.1 v = x.1 v
  | 0 => rfl
  | q + 1 => by
    rw [unM_succ]
    by_cases g : hs ((unM lw lm lb fm fb fp n f w x q).1.1 w) (nI f) = true
    · rw [if_pos g]; exact unM_off hn f w x hv q
    · rw [if_neg g]
      show seaL lw lm lb fm fb fp n (unM lw lm lb fm fb fp n f w x q).1.1 (unM lw lm lb fm fb fp n f w x q).1.2 v = _
      rw [seaL_out hn _ _ hv, unM_off hn f w x hv q]
theorem tu_on {x : Int32} {f : Nat} (hf : f < 32) (h : bi x f = false) : tu x (nI f) = x ||| ((1 : Int32) <<< (nI f &&& 31)) := bi_ext fun i hi => by
  unfold tu
  rw [bi_xor, bi_or, bi_bit hf hi]
  by_cases g : i = f
  · subst g; simp [h]
  · simp [g]
theorem or_and_not {x : Int32} {f : Nat} (hf : f < 32) (h : bi x f = false) : (x ||| ((1 : Int32) <<< (nI f &&& 31))) &&& (((1 : Int32) <<< (nI f &&& 31)) ^^^ (-1)) = x := bi_ext fun i hi => by
  rw [bi_and, bi_or, bi_not _ hi, bi_bit hf hi]
  by_cases g : i = f
  · subst g; simp [h]
  · simp [g]
theorem orW_turn {lw : Nat → Int32} {a b : Nat} (ha : a < 6) (hb : b < 6) (hab : a ≠ b) (h1 : bi (lw a) b = false) (h2 : bi (lw b) a = false) : orW lw a b = turnW lw a b := by
  unfold orW turnW
  rw [tu_on (show b < 32 by omega) h1, upd_ne _ _ (Ne.symm hab), tu_on (show a < 32 by omega) h2]
theorem anW_orW {lw : Nat → Int32} {a b : Nat} (ha : a < 6) (hb : b < 6) (hab : a ≠ b) (h1 : bi (lw a) b = false) (h2 : bi (lw b) a = false) : anW (orW lw a b) a b = lw := by
  have e1 : orW lw a b a = lw a ||| ((1 : Int32) <<< (nI b &&& 31)) := by unfold orW; rw [upd_ne _ _ hab, upd_at]
  have e2 : orW lw a b b = lw b ||| ((1 : Int32) <<< (nI a &&& 31)) := by unfold orW; rw [upd_at, upd_ne _ _ (Ne.symm hab)]
  unfold anW
  rw [e1, or_and_not (show b < 32 by omega) h1, upd_ne _ _ (Ne.symm hab), e2, or_and_not (show a < 32 by omega) h2]
  funext v
  by_cases g : v = b
  · subst g; rw [upd_at]
  · rw [upd_ne _ _ g]
    by_cases g2 : v = a
    · subst g2; rw [upd_at]
    · rw [upd_ne _ _ g2]; unfold orW; rw [upd_ne _ _ g, upd_ne _ _ g2]
theorem turnW_in {lw lw' : Nat → Int32} (a b : Nat) (h : ∀ v, v < 6 → lw' v = lw v) (ha : a < 6) (hb : b < 6) {v : Nat} (hv : v < 6) : turnW lw' a b v = turnW lw a b v := by
  unfold turnW
  by_cases g : v = b
  · subst g
    rw [upd_at, upd_at, h a ha]
    by_cases g2 : v = a
    · subst g2; rw [upd_at, upd_at]
    · rw [upd_ne _ _ g2, upd_ne _ _ g2, h v hv]
  · rw [upd_ne _ _ g, upd_ne _ _ g]
    by_cases g2 : v = a
    · subst g2; rw [upd_at, upd_at, h v hv]
    · rw [upd_ne _ _ g2, upd_ne _ _ g2, h v hv]
section BEST
variable {lw lm lb fm fb fp fv fa lt : Nat → Int32} {n : Nat}
abbrev BR (lw lt : Nat → Int32) (c : TS × Int32 × Int32) (r : PM × Int32 × Int32) : Prop := c.2 = r.2 ∧ 0 ≤ r.2.2 ∧ r.1.1 = lw ∧ r.1.2.1 = lt
theorem bp_step (I : Inv n fp fv fa lw lt) (hu : Int32) (q : Nat) {a b : Nat} (ha : a < 6) (hb : b < 6) (hab : a ≠ b) {c : TS × Int32 × Int32} {r : PM × Int32 × Int32} (R : BR lw lt c r) : BR lw lt (bpB lw lm lb lt hu fm fb fv n q a b c) (bmB lm lb fm fb fp n q a b r) := by
  obtain ⟨h1, h2, h3, h4⟩ := R
  unfold bpB bmB
  rw [h3, h4, h1]
  by_cases g : hs (lw a) (nI b) = true
  · rw [if_pos g, if_pos g, if_pos h2]
    exact ⟨h1, h2, h3, h4⟩
  · rw [if_neg g, if_neg g]
    have b1 : bi (lw a) b = false := by
      rw [hs_bi _ (show b < 32 by omega)] at g
      simpa using g
    have b2 : bi (lw b) a = false := by rw [I.sym b hb a ha]; exact b1
    have J : Inv n fp fv fa (orW lw a b) lt := by rw [orW_turn ha hb hab b1 b2]; exact I.turn ha hb hab
    have e : telT n (bpT lw lm lb lt hu fm fb fv n q a b c.1) = aftT (orW lw a b) lm lb fm fb fp n q lt r.1.2.2.1 := by
      unfold bpT
      refine tel_aft (lw := orW lw a b) (lm := lm) (lb := lb) (fm := fm) (fb := fb) (fp := fp) J.hn J.sym J.var J.tol (trnT a b (becT lw lm lb lt hu c.1)) (fun v hv => ?_) (fun v hv => (becT_at (lw := lw) lt hu c.1 hv).2.1) (fun v hv => (becT_at (lw := lw) lt hu c.1 hv).2.2.1) (fun v hv => (becT_at (lw := lw) lt hu c.1 hv).2.2.2) r.1.2.2.1 q
      show turnW (becT lw lm lb lt hu c.1).1 a b v = _
      rw [orW_turn ha hb hab b1 b2]
      exact turnW_in a b (fun v hv => (becT_at (lw := lw) lt hu c.1 hv).1) ha hb hv
    rw [e]
    have hb1 : (va_cpy (va_cpy lt r.1.2.2.2 0 0 6) (seaS (orW lw a b) lm lb fm fb fp n (lt, r.1.2.2.1, 0) q).1 0 0 6) = lt := cpy_back lt r.1.2.2.2 _ (fun v hv => seaS_off I.hn _ hv q)
    by_cases g2 : r.2.2 < aftT (orW lw a b) lm lb fm fb fp n q lt r.1.2.2.1
    · rw [if_pos g2, if_neg (Int32.not_le.mpr g2)]
      refine ⟨rfl, aft_pos _ _ _ _ _ _ _ _ _ _, anW_orW ha hb hab b1 b2, ?_⟩
      show va_cpy (va_cpy r.1.2.1 r.1.2.2.2 0 0 6) (seaS (orW lw a b) lm lb fm fb fp n (r.1.2.1, r.1.2.2.1, 0) q).1 0 0 6 = lt
      rw [h4]; exact hb1
    · rw [if_neg g2, if_pos (Int32.not_lt.mp g2)]
      refine ⟨rfl, h2, anW_orW ha hb hab b1 b2, ?_⟩
      show va_cpy (va_cpy r.1.2.1 r.1.2.2.2 0 0 6) (seaS (orW lw a b) lm lb fm fb fp n (r.1.2.1, r.1.2.2.1, 0) q).1 0 0 6 = lt
      rw [h4]; exact hb1
theorem bp_in (I : Inv n fp fv fa lw lt) (hu : Int32) (q : Nat) {a : Nat} (ha : a < 6) {c : TS × Int32 × Int32} {r : PM × Int32 × Int32} (R : BR lw lt c r) : ∀ d, d ≤ 5 - a → BR lw lt (bpI lw lm lb lt hu fm fb fv n q a c d) (bmI lm lb fm fb fp n q a r d)
  | 0, _ => by rw [bpI_0, bmI_0]; exact R
  | d + 1, hd => by
    rw [bpI_succ, bmI_succ]
    exact bp_step I hu q ha (by omega) (by omega) (bp_in I hu q ha R d (by omega))
theorem bp_out (I : Inv n fp fv fa lw lt) (hu : Int32) (q : Nat) {c : TS × Int32 × Int32} {r : PM × Int32 × Int32} (R : BR lw lt c r) : ∀ k, k ≤ 6 → BR lw lt (bpO lw lm lb lt hu fm fb fv n q c k) (bmO lm lb fm fb fp n q r k)
  | 0, _ => by rw [bpO_0, bmO_0]; exact R
  | k + 1, hk => by
    rw [bpO_succ, bmO_succ]
    exact bp_in I hu q (by omega) (bp_out I hu q R k (by omega)) (5 - k) (Nat.le_refl _)
theorem bp_beg (I : Inv n fp fv fa lw lt) (hu : Int32) (q : Nat) (t : TS) (nx kp : Nat → Int32) : BR lw lt (bp0 lw lm lb lt hu fm fb fv n q t) (bm0 lm lb fm fb fp n q (lw, lt, nx, kp)) := by
  unfold bp0 bm0
  have e : telT n (livT fm fb fv n q (becT lw lm lb lt hu t)) = aftT lw lm lb fm fb fp n q lt nx := tel_aft I.hn I.sym I.var I.tol (becT lw lm lb lt hu t) (fun v hv => (becT_at (lw := lw) lt hu t hv).1) (fun v hv => (becT_at (lw := lw) lt hu t hv).2.1) (fun v hv => (becT_at (lw := lw) lt hu t hv).2.2.1) (fun v hv => (becT_at (lw := lw) lt hu t hv).2.2.2) nx q
  rw [e]
  exact ⟨rfl, aft_pos _ _ _ _ _ _ _ _ _ _, rfl, cpy_back lt kp _ (fun v hv => seaS_off I.hn _ hv q)⟩
theorem bp_eq (I : Inv n fp fv fa lw lt) (hu : Int32) (q : Nat) (t : TS) (nx kp : Nat → Int32) : BR lw lt (bpO lw lm lb lt hu fm fb fv n q (bp0 lw lm lb lt hu fm fb fv n q t) 6) (bmO lm lb fm fb fp n q (bm0 lm lb fm fb fp n q (lw, lt, nx, kp)) 6) :=
  bp_out I hu q (bp_beg I hu q t nx kp) 6 (Nat.le_refl _)
end BEST
/-! the checksum -/
theorem dgA_6 (a : Nat → Int32) (x : Int64) : dgA a x 6 = mx (mx (mx (mx (mx (mx x (a 0)) (a 1)) (a 2)) (a 3)) (a 4)) (a 5) := by
  rw [dgA_succ, dgA_succ, dgA_succ, dgA_succ, dgA_succ, dgA_succ, dgA_0]
theorem arr6_at (a b c d e f : Int32) : arr6 a b c d e f 0 = a ∧ arr6 a b c d e f 1 = b ∧ arr6 a b c d e f 2 = c ∧ arr6 a b c d e f 3 = d ∧ arr6 a b c d e f 4 = e ∧ arr6 a b c d e f 5 = f := by
  unfold arr6
  refine ⟨?_, ?_, ?_, ?_, ?_, ?_⟩
  · rw [upd_ne _ _ (by decide), upd_ne _ _ (by decide), upd_ne _ _ (by decide), upd_ne _ _ (by decide), upd_ne _ _ (by decide), upd_at]
  · rw [upd_ne _ _ (by decide), upd_ne _ _ (by decide), upd_ne _ _ (by decide), upd_ne _ _ (by decide), upd_at]
  · rw [upd_ne _ _ (by decide), upd_ne _ _ (by decide), upd_ne _ _ (by decide), upd_at]
  · rw [upd_ne _ _ (by decide), upd_ne _ _ (by decide), upd_at]
  · rw [upd_ne _ _ (by decide), upd_at]
  · rw [upd_at]
theorem dgA_arr (a b c d e f : Int32) (x : Int64) : dgA (arr6 a b c d e f) x 6 = mx (mx (mx (mx (mx (mx x a) b) c) d) e) f := by
  obtain ⟨h0, h1, h2, h3, h4, h5⟩ := arr6_at a b c d e f
  rw [dgA_6, h0, h1, h2, h3, h4, h5]
section DIGEST
variable {lw lm lb fm fb fh fp fv fa lt : Nat → Int32} {n : Nat}
theorem dg_f (I : Inv n fp fv fa lw lt) (d : Int64) {f : Nat} (hf : f < n) : mfS lm lb lt fm fb fh fp fv d f = dmF lm lb lt fm fb fh fp n d f := by
  have hn := I.hn
  unfold mfS dmF
  rw [dgA_arr, ch_pc hn (I.var f hf), cnt_pl lt (show f < 32 by omega)]
theorem dg_1 (I : Inv n fp fv fa lw lt) (d : Int64) : ∀ k, k ≤ n → dg1 lm lb lt fm fb fh fp fv d k = dm1 lm lb lt fm fb fh fp n d k
  | 0, _ => by rw [dg1_0, dm1_0]
  | k + 1, hk => by rw [dg1_succ, dm1_succ, dg_1 I d k (by omega), dg_f I _ (by omega)]
theorem dg_v (hn : n ≤ 20) (d : Int64) (v : Nat) : mvS lw lm lb lt fm fb n d v = dmV lw lm lb lt fm fb n d v := by
  unfold mvS dmV
  rw [aw_pc lm lb fm fb v hn]
theorem dg_2 (hn : n ≤ 20) (d : Int64) : ∀ k, dg2 lw lm lb lt fm fb n d k = dm2 lw lm lb lt fm fb n d k
  | 0 => by rw [dg2_0, dm2_0]
  | k + 1 => by rw [dg2_succ, dm2_succ, dg_2 hn d k, dg_v hn]
theorem dg_0 (I : Inv n fp fv fa lw lt) (se hu : Int32) : mx (mx (mx (mx (mx (mx 1861 (nI n)) se) (cntS lt (allS n) 6)) hu) ((favM lt fm n 10).1)) ((favB lt fb n 12).1) = dm0 lt fm fb n se hu := by
  unfold dm0
  rw [dgA_arr, cnt_all I.hn I.tol 6 (Nat.le_refl _), favM_Y lt fm fb I.hn, favB_Y lt fm fb I.hn]
theorem dg_eq (I : Inv n fp fv fa lw lt) (se hu : Int32) : dg2 lw lm lb lt fm fb n (dg1 lm lb lt fm fb fh fp fv (mx (mx (mx (mx (mx (mx 1861 (nI n)) se) (cntS lt (allS n) 6)) hu) ((favM lt fm n 10).1)) ((favB lt fb n 12).1)) n) 6 = dm2 lw lm lb lt fm fb n (dm1 lm lb lt fm fb fh fp n (dm0 lt fm fb n se hu) n) 6 := by
  rw [dg_0 I, dg_1 I _ n (Nat.le_refl _), dg_2 I.hn]
end DIGEST
/-! seasons that pass -/
section PASS
variable {lw lm lb fm fb fp fv fa lt : Nat → Int32} {n : Nat}
theorem ps_eq (I : Inv n fp fv fa lw lt) (la lk nx : Nat → Int32) (hu : Int32) (q : Nat) : (livS lw lm (alS lm lb fm fb n la 6) fm fv n lt lk hu q).1 = (seaS lw lm lb fm fb fp n (lt, nx, hu) q).1 ∧ (livS lw lm (alS lm lb fm fb n la 6) fm fv n lt lk hu q).2.2.1 = (seaS lw lm lb fm fb fp n (lt, nx, hu) q).2.2 ∧ Tol n (livS lw lm (alS lm lb fm fb n la 6) fm fv n lt lk hu q).1 ∧ cntS (livS lw lm (alS lm lb fm fb n la 6) fm fv n lt lk hu q).1 (allS n) 6 = allM (seaS lw lm lb fm fb fp n (lt, nx, hu) q).1 6 := by
  have J := liv_sea (lk := lk) I.hn I.sym I.var (fun _ _ => rfl) (fun _ _ => rfl) (LA_al (la := la) (fm := fm) (fb := fb) I.hn (lm := lm) (lb := lb) (fun _ _ => rfl) (fun _ _ => rfl)) I.tol (fun _ _ => rfl) nx hu q
  have e : (livS lw lm (alS lm lb fm fb n la 6) fm fv n lt lk hu q).1 = (seaS lw lm lb fm fb fp n (lt, nx, hu) q).1 := funext fun v => by
    rcases Nat.lt_or_ge v 6 with h | h
    · exact J.told v h
    · rw [J.offc v h, J.offr v h]
  refine ⟨e, J.hu, by rw [e]; exact J.tol, ?_⟩
  rw [e]
  exact cnt_told I.hn J.tol (fun _ _ => rfl)
end PASS

/-! what each call's code 0 says, and the facts of its turn -/
theorem cd1_0 {a : Bool} (h : cd1 a = 0) : a = true := by
  cases a
  · exact absurd h (by decide)
  · rfl
theorem fin2 {w x : Int32} {n m : Nat} (hn : n ≤ 20) (hm : m ≤ 20) (h : (fin w n && fin x m) = true) : ∃ a b : Nat, a < n ∧ b < m ∧ w = nI a ∧ x = nI b := by
  rw [Bool.and_eq_true] at h
  obtain ⟨a, ha, ea⟩ := fin_ix h.1 (by omega)
  obtain ⟨b, hb, eb⟩ := fin_ix h.2 (by omega)
  exact ⟨a, b, ha, hb, ea, eb⟩
theorem cdAF_0 {w x y : Int32} {n : Nat} (h : cdAF w x y n = 0) : n < 20 := by
  unfold cdAF at h
  by_cases g : (fin w 10 && (fin x 12 && fin y 6)) = true
  · rw [if_pos g] at h
    by_cases q : n < 20
    · exact q
    · rw [if_neg q] at h; exact absurd h (by decide)
  · rw [if_neg g] at h; exact absurd h (by decide)
theorem cdAV_0 {w x y z : Int32} {n : Nat} {fb : Nat → Int32} (h : cdAV w x y z n fb = 0) : n < 20 ∧ fin w n = true ∧ fin x 12 = true ∧ fin y 12 = true ∧ hs (fb (ix w)) x = true ∧ ¬ hs (fb (ix w)) y = true := by
  unfold cdAV at h
  by_cases g : (fin w n && (fin x 12 && (fin y 12 && fin z 6))) = true
  · rw [if_pos g] at h
    by_cases q : n < 20
    · rw [if_pos q] at h
      by_cases r : hs (fb (ix w)) x = true
      · rw [if_pos r] at h
        by_cases t : hs (fb (ix w)) y = true
        · rw [if_pos t] at h; exact absurd h (by decide)
        · rw [Bool.and_eq_true, Bool.and_eq_true, Bool.and_eq_true] at g
          exact ⟨q, g.1, g.2.1, g.2.2.1, r, t⟩
      · rw [if_neg r] at h; exact absurd h (by decide)
    · rw [if_neg q] at h; exact absurd h (by decide)
  · rw [if_neg g] at h; exact absurd h (by decide)
theorem cdTP_0 {w x : Int32} (h : cdTP w x = 0) : ∃ a b : Nat, a < 6 ∧ b < 6 ∧ a ≠ b ∧ w = nI a ∧ x = nI b := by
  unfold cdTP at h
  by_cases g : (fin w 6 && fin x 6) = true
  · rw [if_pos g] at h
    by_cases q : w = x
    · rw [if_pos q] at h; exact absurd h (by decide)
    · obtain ⟨a, b, ha, hb, ea, eb⟩ := fin2 (by omega) (by omega) g
      exact ⟨a, b, ha, hb, fun e => q (by rw [ea, eb, e]), ea, eb⟩
  · rw [if_neg g] at h; exact absurd h (by decide)
theorem cdTell_0 {w x : Int32} {n : Nat} {lm lb lt fm fb : Nat → Int32} (hn : n ≤ 20) (h : cdTell w x n lm lb lt fm fb = 0) : ∃ f v : Nat, f < n ∧ v < 6 ∧ w = nI f ∧ x = nI v := by
  unfold cdTell at h
  by_cases g : (fin w n && fin x 6) = true
  · exact fin2 hn (by omega) g
  · rw [if_neg g] at h; exact absurd h (by decide)
theorem cdForg_0 {w x : Int32} {n : Nat} {lt : Nat → Int32} (hn : n ≤ 20) (h : cdForg w x n lt = 0) : ∃ f v : Nat, f < n ∧ v < 6 ∧ w = nI f ∧ x = nI v ∧ hs (lt v) (nI f) = true := by
  unfold cdForg at h
  by_cases g : (fin w n && fin x 6) = true
  · obtain ⟨a, b, ha, hb, ea, eb⟩ := fin2 hn (by omega) g
    rw [if_pos g] at h
    by_cases q : hs (lt (ix x)) w = true
    · refine ⟨a, b, ha, hb, ea, eb, ?_⟩
      rw [ea, eb, ix_nI (by omega)] at q; exact q
    · rw [if_neg q] at h; exact absurd h (by decide)
  · rw [if_neg g] at h; exact absurd h (by decide)
section FACTS
variable {lw lm lb fm fb fh fp fv fa lt : Nat → Int32} {n : Nat}
theorem cnt_w {w : Int32} (h : fin w n = true) (hn : n ≤ 20) (l : Nat → Int32) : cntS l ((1 : Int32) <<< (w &&& 31)) 6 = plS l (ix w) 6 := by
  obtain ⟨f, hf, rfl⟩ := fin_ix h (by omega)
  rw [ix_nI (by omega)]
  exact cnt_pl l (by omega) 6
theorem av_fun (hn : n ≤ 20) {w x y z : Int32} (h : cdAV w x y z n fb = 0) : (((fb (ix w)) &&& (((1 : Int32) <<< (x &&& 31)) ^^^ (-1))) ||| ((1 : Int32) <<< (y &&& 31))) = tu (tu (fb (ix w)) x) y := by
  obtain ⟨_, _, h3, h4, h5, h6⟩ := cdAV_0 h
  obtain ⟨a, ha, rfl⟩ := fin_ix h3 (by omega)
  obtain ⟨b, hb, rfl⟩ := fin_ix h4 (by omega)
  exact (tu_swap (by omega) (by omega) h5 h6).symm
theorem av_inv (I : Inv n fp fv fa lw lt) {w x y z : Int32} (h : cdAV w x y z n fb = 0) : Inv (n + 1) (upd fp n w) (wrV fv n w) (wrA fa n w) lw lt := by
  obtain ⟨h1, h2, _⟩ := cdAV_0 h
  obtain ⟨a, ha, rfl⟩ := fin_ix h2 (by omega)
  exact I.child h1 ha
theorem tp_fun {w x : Int32} (h : cdTP w x = 0) (l : Nat → Int32) : (upd (upd l (ix w) ((l (ix w)) ^^^ ((1 : Int32) <<< (x &&& 31)))) (ix x) (((upd l (ix w) ((l (ix w)) ^^^ ((1 : Int32) <<< (x &&& 31)))) (ix x)) ^^^ ((1 : Int32) <<< (w &&& 31)))) = turnW l (ix w) (ix x) := by
  obtain ⟨a, b, ha, hb, _, rfl, rfl⟩ := cdTP_0 h
  rw [ix_nI (by omega), ix_nI (by omega)]
  rfl
theorem tp_inv (I : Inv n fp fv fa lw lt) {w x : Int32} (h : cdTP w x = 0) : Inv n fp fv fa (turnW lw (ix w) (ix x)) lt := by
  obtain ⟨a, b, ha, hb, hab, rfl, rfl⟩ := cdTP_0 h
  rw [ix_nI (by omega), ix_nI (by omega)]
  exact I.turn ha hb hab
theorem tell_inv (I : Inv n fp fv fa lw lt) {w x : Int32} (h : cdTell w x n lm lb lt fm fb = 0) : Inv n fp fv fa lw (upd lt (ix x) (lt (ix x) ||| ((1 : Int32) <<< (w &&& 31)))) := by
  obtain ⟨f, v, hf, hv, rfl, rfl⟩ := cdTell_0 I.hn h
  rw [ix_nI (by omega)]
  exact I.told (tol_upd I.tol (or_bits hf I.hn (I.tol v hv)))
theorem tell_fin (hn : n ≤ 20) {w x : Int32} (h : cdTell w x n lm lb lt fm fb = 0) : fin w n = true := by
  obtain ⟨f, v, hf, hv, rfl, rfl⟩ := cdTell_0 hn h
  exact fin_nI hf (by omega)
theorem forg_fun (hn : n ≤ 20) {w x : Int32} (h : cdForg w x n lt = 0) : ((lt (ix x)) &&& (((1 : Int32) <<< (w &&& 31)) ^^^ (-1))) = tu (lt (ix x)) w := by
  obtain ⟨f, v, hf, hv, rfl, rfl, g⟩ := cdForg_0 hn h
  rw [ix_nI (by omega)]
  exact (tu_off (by omega) g).symm
theorem forg_inv (I : Inv n fp fv fa lw lt) {w x : Int32} (h : cdForg w x n lt = 0) : Inv n fp fv fa lw (upd lt (ix x) (tu (lt (ix x)) w)) := by
  have hn := I.hn
  obtain ⟨f, v, hf, hv, rfl, rfl, g⟩ := cdForg_0 hn h
  rw [ix_nI (by omega)]
  exact I.told (tol_upd I.tol (tu_bits (by omega) g (I.tol v hv)))
theorem forg_fin (hn : n ≤ 20) {w x : Int32} (h : cdForg w x n lt = 0) : fin w n = true := by
  obtain ⟨f, v, hf, hv, rfl, rfl, _⟩ := cdForg_0 hn h
  exact fin_nI hf (by omega)
theorem chs_w (I : Inv n fp fv fa lw lt) {w : Int32} (h : cd1 (fin w n) = 0) : pc (fv (ix w)) = chS fp (ix w) n := by
  have hn := I.hn
  obtain ⟨f, hf, rfl⟩ := fin_ix (cd1_0 h) (by omega)
  rw [ix_nI (by omega)]
  exact ch_pc hn (I.var f hf)
theorem near_w (I : Inv n fp fv fa lw lt) {w x : Int32} (h : cd1 (fin w n && fin x n) = 0) : grF ((fa (ix w)) &&& (fa (ix x))) 20 = grF (((anS fp (ix w) 21).1) &&& ((anS fp (ix x) 21).1)) n := by
  have hn := I.hn
  obtain ⟨a, b, ha, hb, rfl, rfl⟩ := fin2 hn hn (cd1_0 h)
  rw [ix_nI (by omega), ix_nI (by omega), ← I.anc a ha, ← I.anc b hb]
  exact grF_20 hn (anc_bits I ha hb)
theorem kin_w (I : Inv n fp fv fa lw lt) {w x : Int32} (h : cd1 (fin w n && fin x n) = 0) : kinS (fa (ix w)) (fa (ix x)) = kinM ((anS fp (ix w) 21).1) ((anS fp (ix x) 21).1) n := by
  have hn := I.hn
  obtain ⟨a, b, ha, hb, rfl, rfl⟩ := fin2 hn hn (cd1_0 h)
  rw [ix_nI (by omega), ix_nI (by omega), ← I.anc a ha, ← I.anc b hb]
  exact kin_eq hn (anc_bits I ha hb)
theorem un_w (I : Inv n fp fv fa lw lt) {w x : Int32} (h : cd1 (fin w n && fin x 6) = 0) (hu : Int32) (t : TS) (nx : Nat → Int32) : untR fm fb fv n (ix w) (ix x) (becT lw lm lb lt hu t) = unR (unM lw lm lb fm fb fp n (ix w) (ix x) (lt, nx) 41).2 := by
  have hn := I.hn
  obtain ⟨a, b, ha, hb, rfl, rfl⟩ := fin2 hn (by omega) (cd1_0 h)
  rw [ix_nI (show b < 2 ^ 31 by omega)]
  exact un_eq hn I.sym I.var I.tol hu t nx _ hb
theorem aft_w (I : Inv n fp fv fa lw lt) (hu : Int32) (t : TS) (nx : Nat → Int32) (q : Nat) : telT n (livT fm fb fv n q (becT lw lm lb lt hu t)) = aftT lw lm lb fm fb fp n q lt nx :=
  tel_aft I.hn I.sym I.var I.tol (becT lw lm lb lt hu t) (fun v hv => (becT_at (lw := lw) lt hu t hv).1) (fun v hv => (becT_at (lw := lw) lt hu t hv).2.1) (fun v hv => (becT_at (lw := lw) lt hu t hv).2.2.1) (fun v hv => (becT_at (lw := lw) lt hu t hv).2.2.2) nx q
end FACTS
