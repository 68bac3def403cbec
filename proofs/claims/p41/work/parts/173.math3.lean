/-! the class's seasons are the reference's -/
theorem fold_upd (h a : Nat → Int32) : ∀ k v, z_fold (fun v a => upd a v (h v)) a k v = if v < k then h v else a v
  | 0, v => by rw [if_neg (Nat.not_lt_zero _)]; rfl
  | k + 1, v => by
    rw [z_fold_succ]
    by_cases g : v = k
    · subst g; rw [upd_at, if_pos (by omega)]
    · rw [upd_ne _ _ g, fold_upd h a k v]
      by_cases q : v < k
      · rw [if_pos q, if_pos (by omega)]
      · rw [if_neg q, if_neg (by omega)]
theorem hushK_at (la lt lk : Nat → Int32) {v : Nat} (hv : v < 6) : hushK la lt lk 6 v = lt v &&& la v := (fold_upd (fun v => lt v &&& la v) lk 6 v).trans (if_pos hv)
theorem sprT_at (lw lm la lk fm fv : Nat → Int32) (n : Nat) (lt : Nat → Int32) (k v : Nat) : sprT lw lm la lk fm fv n lt k v = if v < k then thenS lw lm la lk fm fv n v else lt v := fold_upd (fun v => thenS lw lm la lk fm fv n v) lt k v
theorem alS_at (lm lb fm fb : Nat → Int32) (n : Nat) (la : Nat → Int32) {v : Nat} (hv : v < 6) : alS lm lb fm fb n la 6 v = welS lm lb fm fb v n := (fold_upd (fun v => welS lm lb fm fb v n) la 6 v).trans (if_pos hv)
theorem cpS_at (g f : Nat → Int32) {v : Nat} (hv : v < 6) : cpS g f 6 v = g v := (fold_upd g f 6 v).trans (if_pos hv)
theorem ban_cong {lm lm' lb lb' fm fb : Nat → Int32} {v : Nat} (h1 : lm' v = lm v) (h2 : lb' v = lb v) (f : Nat) : ban lm' lb' fm fb f v = ban lm lb fm fb f v := by unfold ban; rw [h1, h2]
theorem sprC_iff (lw lm la lk fm fv : Nat → Int32) (n : Nat) (lt : Nat → Int32) : ∀ k, (sprC lw lm la lk fm fv n lt k = false ↔ ∀ v, v < k → thenS lw lm la lk fm fv n v = lt v)
  | 0 => ⟨fun _ _ h => absurd h (Nat.not_lt_zero _), fun _ => rfl⟩
  | k + 1 => by
    rw [sprC_succ, sprT_at, if_neg (Nat.lt_irrefl k), Bool.or_eq_false_iff, sprC_iff lw lm la lk fm fv n lt k]
    constructor
    · rintro ⟨h1, h2⟩ v hv
      rcases Nat.lt_or_ge v k with r | r
      · exact h1 v r
      · rw [show v = k by omega]; simpa using h2
    · intro h
      exact ⟨fun v hv => h v (by omega), by simpa using h k (by omega)⟩
section SEASON3
variable {lw lm lb fm fb fp fv : Nat → Int32} {n : Nat}
theorem LA_al (hn : n ≤ 20) {lm' lb' la : Nat → Int32} (h1 : ∀ v, v < 6 → lm' v = lm v) (h2 : ∀ v, v < 6 → lb' v = lb v) : LA lm lb fm fb n (alS lm' lb' fm fb n la 6) := by
  intro v hv i hi
  rw [alS_at _ _ _ _ _ _ hv, wel_mk, mk_bi _ n (by omega) i hi, ban_cong (h1 v hv) (h2 v hv)]
def Tol (n : Nat) (lt : Nat → Int32) : Prop := ∀ v, v < 6 → ∀ i, i < 32 → bi (lt v) i = true → i < n
theorem hushH_sum (hn : n ≤ 20) {la lt : Nat → Int32} (hla : LA lm lb fm fb n la) (ht : Tol n lt) (hu : Int32) : ∀ k, k ≤ 6 → hushH la lt hu k = hu + sumH lm lb fm fb n lt k
  | 0, _ => (Int32.add_zero hu).symm
  | k + 1, hk => by
    have ih := hushH_sum hn hla ht hu k (by omega)
    show hushH la lt hu k + pc (lt k &&& (la k ^^^ (-1))) = _
    rw [ih, sumH_succ, ← Int32.add_assoc]
    congr 1
    refine pc_ct (by omega) fun i hi => ?_
    rw [bi_and, bi_not _ hi, hla k (by omega) i hi]
    cases g : bi (lt k) i
    · simp
    · have := ht k (by omega) i hi g
      simp [this]
theorem KT_and {la lt : Nat → Int32} (hla : LA lm lb fm fb n la) (ht : Tol n lt) {K : Nat → Int32} (hK : ∀ v, v < 6 → K v = lt v &&& la v) : KT lm lb fm fb n lt K := by
  intro v hv i hi
  rw [hK v hv, bi_and, hla v hv i hi]
  cases g : bi (lt v) i
  · simp
  · have := ht v hv i hi g
    simp [this]
/-- one season -/
theorem one_season (hn : n ≤ 20) (hsym : ∀ a, a < 6 → ∀ b, b < 6 → bi (lw a) b = bi (lw b) a) (hv : ∀ f, f < n → ∀ i, i < 32 → bi (fv f) i = (decide (i < n) && decide (fp i = nI f))) {lw' lm' la lt lt' lk : Nat → Int32} (hlw : ∀ v, v < 6 → lw' v = lw v) (hlm : ∀ v, v < 6 → lm' v = lm v) (hla : LA lm lb fm fb n la) (ht : Tol n lt) (hlt : ∀ v, v < 6 → lt' v = lt v) (nx : Nat → Int32) {v : Nat} (hv6 : v < 6) : thenS lw' lm' la (hushK la lt' lk 6) fm fv n v = seaN lw lm lb fm fb fp n lt nx v := by
  have hK : ∀ v, v < 6 → hushK la lt' lk 6 v = lt v &&& la v := fun v h => by rw [hushK_at _ _ _ h, hlt v h]
  have hKT := KT_and hla ht hK
  refine bi_ext fun i hi => ?_
  rw [Bool.eq_iff_iff, then_bi hn hv hla hv6 (hlm v hv6) (hlw v hv6) (fun v h i hi g => by
    rw [hKT v h i hi, Bool.and_eq_true] at g; exact ht v h i hi g.1) hi, seaN_bi hn hsym lt nx hKT hv6 hi]
theorem tol_sea (hn : n ≤ 20) (hsym : ∀ a, a < 6 → ∀ b, b < 6 → bi (lw a) b = bi (lw b) a) {lt : Nat → Int32} (ht : Tol n lt) (nx : Nat → Int32) : Tol n (seaL lw lm lb fm fb fp n lt nx) := by
  intro v hv i hi g
  obtain ⟨h1, _⟩ := s1O_bi (lm := lm) (lb := lb) (fm := fm) (fb := fb) hn lt nx 6
  rw [seaL_in _ _ hv, seaN_bi (K := (s1O lm lb fm fb n lt nx 6).1.1) hn hsym lt nx (fun z hz j hj => h1 z hz j hj) hv hi] at g
  rcases g with g | ⟨f, hf, _, g⟩
  · rw [h1 v hv i hi, Bool.and_eq_true] at g; exact ht v hv i hi g.1
  · rcases com_cases (lm := lm) (lb := lb) (fm := fm) (fb := fb) (fp := fp) (f := f) (v := v) hn hf with q | ⟨j, hj, q, _⟩
    · rw [q] at g; exact absurd g.symm (nI_ne_m1 (by omega))
    · rw [q, nI_eq (by omega) (by omega)] at g; omega
/-- where nothing changes, nobody was silenced -/
theorem still (hn : n ≤ 20) (hsym : ∀ a, a < 6 → ∀ b, b < 6 → bi (lw a) b = bi (lw b) a) {lt : Nat → Int32} (ht : Tol n lt) (nx : Nat → Int32) (h : ∀ v, v < 6 → seaN lw lm lb fm fb fp n lt nx v = lt v) : seaG lm lb fm fb n lt nx = 0 := by
  obtain ⟨h1, _, _, h4⟩ := s1O_bi (lm := lm) (lb := lb) (fm := fm) (fb := fb) hn lt nx 6
  unfold seaG
  rw [h4]
  have free : ∀ v, v < 6 → ∀ i, i < n → (bi (lt v) i && ban lm lb fm fb i v) = false := by
    intro v hv i hi
    cases g : bi (lt v) i
    · rfl
    · rw [← h v hv, seaN_bi (K := (s1O lm lb fm fb n lt nx 6).1.1) hn hsym lt nx (fun z hz j hj => h1 z hz j hj) hv (by omega)] at g
      rcases g with g | ⟨f, hf, _, g⟩
      · rw [h1 v hv i (by omega), decide_eq_true hi] at g
        simpa using (Bool.and_eq_true_iff.mp g).2
      · rcases com_cases (lm := lm) (lb := lb) (fm := fm) (fb := fb) (fp := fp) (f := f) (v := v) hn hf with q | ⟨j, hj, q, r⟩
        · rw [q] at g; exact absurd g.symm (nI_ne_m1 (by omega))
        · rw [q, nI_eq (by omega) (by omega)] at g; subst g; simpa using r
  have : ∀ k, k ≤ 6 → sumH lm lb fm fb n lt k = 0 := by
    intro k
    induction k with
    | zero => intro _; rfl
    | succ k ih =>
      intro hk
      rw [sumH_succ, ih (by omega), fb_ct_zero.mpr (fun i hi => free k (by omega) i hi)]
      rfl
  exact this 6 (Nat.le_refl _)
theorem seaG_eq (hn : n ≤ 20) (lt nx : Nat → Int32) : seaG lm lb fm fb n lt nx = sumH lm lb fm fb n lt 6 := (s1O_bi hn lt nx 6).2.2.2
abbrev LR (lw lm lb fm fb fp : Nat → Int32) (n : Nat) (lt0 lt0' : Nat → Int32) (c : (Nat → Int32) × (Nat → Int32) × Int32 × Bool) (r : (Nat → Int32) × (Nat → Int32) × Int32) : Prop := (∀ v, v < 6 → c.1 v = r.1 v) ∧ (c.2.2.1 = r.2.2) ∧ (Tol n r.1) ∧ (c.2.2.2 = false → ∀ nx, ∀ v, v < 6 → seaN lw lm lb fm fb fp n r.1 nx v = r.1 v) ∧ (∀ v, 6 ≤ v → c.1 v = lt0' v) ∧ (∀ v, 6 ≤ v → r.1 v = lt0 v)
theorem LR.told {lw lm lb fm fb fp : Nat → Int32} {n : Nat} {lt0 lt0' : Nat → Int32} {c : (Nat → Int32) × (Nat → Int32) × Int32 × Bool} {r : (Nat → Int32) × (Nat → Int32) × Int32} (I : LR lw lm lb fm fb fp n lt0 lt0' c r) : ∀ v, v < 6 → c.1 v = r.1 v := I.1
theorem LR.hu {lw lm lb fm fb fp : Nat → Int32} {n : Nat} {lt0 lt0' : Nat → Int32} {c : (Nat → Int32) × (Nat → Int32) × Int32 × Bool} {r : (Nat → Int32) × (Nat → Int32) × Int32} (I : LR lw lm lb fm fb fp n lt0 lt0' c r) : c.2.2.1 = r.2.2 := I.2.1
theorem LR.tol {lw lm lb fm fb fp : Nat → Int32} {n : Nat} {lt0 lt0' : Nat → Int32} {c : (Nat → Int32) × (Nat → Int32) × Int32 × Bool} {r : (Nat → Int32) × (Nat → Int32) × Int32} (I : LR lw lm lb fm fb fp n lt0 lt0' c r) : Tol n r.1 := I.2.2.1
theorem LR.stop {lw lm lb fm fb fp : Nat → Int32} {n : Nat} {lt0 lt0' : Nat → Int32} {c : (Nat → Int32) × (Nat → Int32) × Int32 × Bool} {r : (Nat → Int32) × (Nat → Int32) × Int32} (I : LR lw lm lb fm fb fp n lt0 lt0' c r) : c.2.2.2 = false → ∀ nx, ∀ v, v < 6 → seaN lw lm lb fm fb fp n r.1 nx v = r.1 v := I.2.2.2.1
theorem LR.offc {lw lm lb fm fb fp : Nat → Int32} {n : Nat} {lt0 lt0' : Nat → Int32} {c : (Nat → Int32) × (Nat → Int32) × Int32 × Bool} {r : (Nat → Int32) × (Nat → Int32) × Int32} (I : LR lw lm lb fm fb fp n lt0 lt0' c r) : ∀ v, 6 ≤ v → c.1 v = lt0' v := I.2.2.2.2.1
theorem LR.offr {lw lm lb fm fb fp : Nat → Int32} {n : Nat} {lt0 lt0' : Nat → Int32} {c : (Nat → Int32) × (Nat → Int32) × Int32 × Bool} {r : (Nat → Int32) × (Nat → Int32) × Int32} (I : LR lw lm lb fm fb fp n lt0 lt0' c r) : ∀ v, 6 ≤ v → r.1 v = lt0 v := I.2.2.2.2.2
theorem liv_sea (hn : n ≤ 20) (hsym : ∀ a, a < 6 → ∀ b, b < 6 → bi (lw a) b = bi (lw b) a) (hv : ∀ f, f < n → ∀ i, i < 32 → bi (fv f) i = (decide (i < n) && decide (fp i = nI f))) {lw' lm' la lt lt' lk : Nat → Int32} (hlw : ∀ v, v < 6 → lw' v = lw v) (hlm : ∀ v, v < 6 → lm' v = lm v) (hla : LA lm lb fm fb n la) (ht : Tol n lt) (hlt : ∀ v, v < 6 → lt' v = lt v) (nx : Nat → Int32) (hu : Int32) : ∀ q, LR lw lm lb fm fb fp n lt lt' (livS lw' lm' la fm fv n lt' lk hu q) (seaS lw lm lb fm fb fp n (lt, nx, hu) q)
  | 0 => ⟨hlt, rfl, ht, fun h => (by cases h), fun _ _ => rfl, fun _ _ => rfl⟩
  | q + 1 => by
    have I := liv_sea hn hsym hv hlw hlm hla ht hlt nx hu (lk := lk) q
    rw [livS_succ, seaS_succ]
    generalize livS lw' lm' la fm fv n lt' lk hu q = c at I ⊢
    generalize seaS lw lm lb fm fb fp n (lt, nx, hu) q = r at I ⊢
    cases g : c.2.2.2
    · rw [if_neg (by decide)]
      have hs := I.stop g r.2.1
      have e : seaL lw lm lb fm fb fp n r.1 r.2.1 = r.1 := funext fun v => by
        rcases Nat.lt_or_ge v 6 with h | h
        · rw [seaL_in _ _ h, hs v h]
        · exact seaL_out hn _ _ h
      rw [e, still hn hsym I.tol r.2.1 hs, Int32.add_zero]
      exact ⟨I.told, I.hu, I.tol, I.stop, I.offc, I.offr⟩
    · rw [if_pos rfl]
      have key : ∀ nx, ∀ v, v < 6 → thenS lw' lm' la (hushK la c.1 c.2.1 6) fm fv n v = seaN lw lm lb fm fb fp n r.1 nx v := fun nx v h => one_season hn hsym hv hlw hlm hla I.tol I.told nx h
      refine ⟨fun v h => ?_, ?_, tol_sea hn hsym I.tol r.2.1, fun hc nx' v h => ?_, fun v h => ?_, fun v h => ?_⟩
      · show sprT lw' lm' la (hushK la c.1 c.2.1 6) fm fv n c.1 6 v = seaL lw lm lb fm fb fp n r.1 r.2.1 v
        rw [sprT_at, if_pos h, key r.2.1 v h, seaL_in _ _ h]
      · show hushH la c.1 c.2.2.1 6 = r.2.2 + seaG lm lb fm fb n r.1 r.2.1
        rw [hushH_sum (lt := c.1) hn hla (fun v h i hi g => I.tol v h i hi (by rw [← I.told v h]; exact g)) _ 6 (Nat.le_refl _), I.hu, seaG_eq hn]
        congr 1
        have : ∀ k, k ≤ 6 → sumH lm lb fm fb n c.1 k = sumH lm lb fm fb n r.1 k := by
          intro k
          induction k with
          | zero => intro _; rfl
          | succ k ih => intro hk; rw [sumH_succ, sumH_succ, ih (by omega), I.told k (by omega)]
        exact this 6 (Nat.le_refl _)
      · have hc' := (sprC_iff lw' lm' la (hushK la c.1 c.2.1 6) fm fv n c.1 6).mp hc
        have e : seaL lw lm lb fm fb fp n r.1 r.2.1 = r.1 := funext fun v => by
          rcases Nat.lt_or_ge v 6 with h | h
          · rw [seaL_in _ _ h, ← key r.2.1 v h, hc' v h, I.told v h]
          · exact seaL_out hn _ _ h
        show seaN lw lm lb fm fb fp n (seaL lw lm lb fm fb fp n r.1 r.2.1) nx' v = seaL lw lm lb fm fb fp n r.1 r.2.1 v
        rw [e, ← key nx' v h, hc' v h, I.told v h]
      · show sprT lw' lm' la (hushK la c.1 c.2.1 6) fm fv n c.1 6 v = _
        rw [sprT_at, if_neg (by omega)]; exact I.offc v h
      · show seaL lw lm lb fm fb fp n r.1 r.2.1 v = _
        rw [seaL_out hn _ _ h]; exact I.offr v h
end SEASON3

/-! the trial land and its calls -/
section TRIAL
variable {lw lm lb fm fb fp fv : Nat → Int32} {n : Nat}
theorem cnt_told (hn : n ≤ 20) {lt lt' : Nat → Int32} (ht : Tol n lt) (he : ∀ v, v < 6 → lt' v = lt v) : cntS lt' (allS n) 6 = allM lt 6 := by
  have h1 := cnt_all hn ht 6 (Nat.le_refl _)
  have h2 : ∀ k, k ≤ 6 → cntS lt' (allS n) k = cntS lt (allS n) k := by
    intro k
    induction k with
    | zero => intro _; rfl
    | succ k ih => intro hk; rw [cntS_succ, cntS_succ, ih (by omega), he k (by omega)]
  rw [h2 6 (Nat.le_refl _), h1]
/-- any seasons of the class on a land that shows lw lm lb lt in its six places -/
theorem livL_sea (hn : n ≤ 20) (hsym : ∀ a, a < 6 → ∀ b, b < 6 → bi (lw a) b = bi (lw b) a) (hv : ∀ f, f < n → ∀ i, i < 32 → bi (fv f) i = (decide (i < n) && decide (fp i = nI f))) {lt : Nat → Int32} (ht : Tol n lt) (t : TS) (h1 : ∀ v, v < 6 → t.1 v = lw v) (h2 : ∀ v, v < 6 → t.2.1 v = lm v) (h3 : ∀ v, v < 6 → t.2.2.1 v = lb v) (h4 : ∀ v, v < 6 → t.2.2.2.1 v = lt v) (nx : Nat → Int32) (q : Nat) : LR lw lm lb fm fb fp n lt t.2.2.2.1 (livL fm fb fv n q t) (seaS lw lm lb fm fb fp n (lt, nx, t.2.2.2.2.2.2) q) :=
  liv_sea hn hsym hv h1 h2 (LA_al hn h2 h3) ht h4 nx _ q
theorem seaS_hu (x : (Nat → Int32) × (Nat → Int32)) (hu hu' : Int32) : ∀ q, (seaS lw lm lb fm fb fp n (x.1, x.2, hu) q).1 = (seaS lw lm lb fm fb fp n (x.1, x.2, hu') q).1 ∧ (seaS lw lm lb fm fb fp n (x.1, x.2, hu) q).2.1 = (seaS lw lm lb fm fb fp n (x.1, x.2, hu') q).2.1
  | 0 => ⟨rfl, rfl⟩
  | q + 1 => by
    obtain ⟨h1, h2⟩ := seaS_hu x hu hu' q
    rw [seaS_succ, seaS_succ, h1, h2]
    exact ⟨rfl, rfl⟩
theorem becT_at (lt : Nat → Int32) (hu : Int32) (t : TS) {v : Nat} (hv : v < 6) : (becT lw lm lb lt hu t).1 v = lw v ∧ (becT lw lm lb lt hu t).2.1 v = lm v ∧ (becT lw lm lb lt hu t).2.2.1 v = lb v ∧ (becT lw lm lb lt hu t).2.2.2.1 v = lt v := ⟨cpS_at lw t.1 hv, cpS_at lm t.2.1 hv, cpS_at lb t.2.2.1 hv, cpS_at lt t.2.2.2.1 hv⟩
theorem tel_aft (hn : n ≤ 20) (hsym : ∀ a, a < 6 → ∀ b, b < 6 → bi (lw a) b = bi (lw b) a) (hv : ∀ f, f < n → ∀ i, i < 32 → bi (fv f) i = (decide (i < n) && decide (fp i = nI f))) {lt : Nat → Int32} (ht : Tol n lt) (t : TS) (h1 : ∀ v, v < 6 → t.1 v = lw v) (h2 : ∀ v, v < 6 → t.2.1 v = lm v) (h3 : ∀ v, v < 6 → t.2.2.1 v = lb v) (h4 : ∀ v, v < 6 → t.2.2.2.1 v = lt v) (nx : Nat → Int32) (q : Nat) : telT n (livT fm fb fv n q t) = aftT lw lm lb fm fb fp n q lt nx := by
  have I := livL_sea (fm := fm) (fb := fb) hn hsym hv ht t h1 h2 h3 h4 nx q
  unfold telT aftT
  rw [← (seaS_hu (lt, nx) t.2.2.2.2.2.2 0 q).1]
  exact cnt_told hn I.tol I.told
/-- seasonsUntil -/
abbrev UR (lw lm lb fm fb fp : Nat → Int32) (n : Nat) (c : TS × Int32) (r : ((Nat → Int32) × (Nat → Int32)) × Int32) : Prop := (∀ v, v < 6 → c.1.1 v = lw v) ∧ (∀ v, v < 6 → c.1.2.1 v = lm v) ∧ (∀ v, v < 6 → c.1.2.2.1 v = lb v) ∧ (∀ v, v < 6 → c.1.2.2.2.1 v = r.1.1 v) ∧ (Tol n r.1.1) ∧ (c.2 = r.2)
theorem UR.w {lw lm lb fm fb fp : Nat → Int32} {n : Nat} {c : TS × Int32} {r : ((Nat → Int32) × (Nat → Int32)) × Int32} (I : UR lw lm lb fm fb fp n c r) : ∀ v, v < 6 → c.1.1 v = lw v := I.1
theorem UR.m {lw lm lb fm fb fp : Nat → Int32} {n : Nat} {c : TS × Int32} {r : ((Nat → Int32) × (Nat → Int32)) × Int32} (I : UR lw lm lb fm fb fp n c r) : ∀ v, v < 6 → c.1.2.1 v = lm v := I.2.1
theorem UR.b {lw lm lb fm fb fp : Nat → Int32} {n : Nat} {c : TS × Int32} {r : ((Nat → Int32) × (Nat → Int32)) × Int32} (I : UR lw lm lb fm fb fp n c r) : ∀ v, v < 6 → c.1.2.2.1 v = lb v := I.2.2.1
theorem UR.told {lw lm lb fm fb fp : Nat → Int32} {n : Nat} {c : TS × Int32} {r : ((Nat → Int32) × (Nat → Int32)) × Int32} (I : UR lw lm lb fm fb fp n c r) : ∀ v, v < 6 → c.1.2.2.2.1 v = r.1.1 v := I.2.2.2.1
theorem UR.tol {lw lm lb fm fb fp : Nat → Int32} {n : Nat} {c : TS × Int32} {r : ((Nat → Int32) × (Nat → Int32)) × Int32} (I : UR lw lm lb fm fb fp n c r) : Tol n r.1.1 := I.2.2.2.2.1
theorem UR.num {lw lm lb fm fb fp : Nat → Int32} {n : Nat} {c : TS × Int32} {r : ((Nat → Int32) × (Nat → Int32)) × Int32} (I : UR lw lm lb fm fb fp n c r) : c.2 = r.2 := I.2.2.2.2.2
theorem seaS_one (x : (Nat → Int32) × (Nat → Int32)) (hu : Int32) : (seaS lw lm lb fm fb fp n (x.1, x.2, hu) 1).1 = seaL lw lm lb fm fb fp n x.1 x.2 := by rw [seaS_succ, seaS_0]
theorem un_rel (hn : n ≤ 20) (hsym : ∀ a, a < 6 → ∀ b, b < 6 → bi (lw a) b = bi (lw b) a) (hv : ∀ f, f < n → ∀ i, i < 32 → bi (fv f) i = (decide (i < n) && decide (fp i = nI f))) {lt : Nat → Int32} (ht : Tol n lt) (t : TS) (h1 : ∀ v, v < 6 → t.1 v = lw v) (h2 : ∀ v, v < 6 → t.2.1 v = lm v) (h3 : ∀ v, v < 6 → t.2.2.1 v = lb v) (h4 : ∀ v, v < 6 → t.2.2.2.1 v = lt v) (nx : Nat → Int32) (f : Nat) {v : Nat} (hv6 : v < 6) : ∀ k, UR lw lm lb fm fb fp n (untS fm fb fv n f v t k) (unM lw lm lb fm fb fp n f v (lt, nx) k)
  | 0 => ⟨h1, h2, h3, h4, ht, rfl⟩
  | k + 1 => by
    have I := un_rel hn hsym hv ht t h1 h2 h3 h4 nx f hv6 k
    rw [untS_succ, unM_succ]
    generalize untS fm fb fv n f v t k = c at I ⊢
    generalize unM lw lm lb fm fb fp n f v (lt, nx) k = r at I ⊢
    rw [I.told v hv6]
    by_cases g : hs (r.1.1 v) (nI f) = true
    · rw [if_pos g, if_pos g]; exact I
    · rw [if_neg g, if_neg g]
      have J := livL_sea (fm := fm) (fb := fb) hn hsym hv I.tol c.1 I.w I.m I.b I.told r.1.2 1
      refine ⟨I.w, I.m, I.b, fun z hz => ?_, ?_, rfl⟩
      · show (livL fm fb fv n 1 c.1).1 z = seaL lw lm lb fm fb fp n r.1.1 r.1.2 z
        rw [J.told z hz, seaS_one r.1 c.1.2.2.2.2.2.2]
      · show Tol n (seaL lw lm lb fm fb fp n r.1.1 r.1.2)
        have := J.tol
        rw [seaS_one r.1 c.1.2.2.2.2.2.2] at this
        exact this
theorem un_num (hn : n ≤ 20) {x : (Nat → Int32) × (Nat → Int32)} (f v : Nat) : ∀ k, k ≤ 41 → ∃ j, j ≤ k ∧ (unM lw lm lb fm fb fp n f v x k).2 = nI j ∧ (j = k ∨ hs ((unM lw lm lb fm fb fp n f v x k).1.1 v) (nI f) = true)
  | 0, _ => ⟨0, Nat.le_refl _, rfl, Or.inl rfl⟩
  | k + 1, hk => by
    obtain ⟨j, hj, e, h⟩ := un_num hn f v k (by omega) (x := x)
    rw [unM_succ]
    by_cases g : hs ((unM lw lm lb fm fb fp n f v x k).1.1 v) (nI f) = true
    · rw [if_pos g]; exact ⟨j, by omega, e, Or.inr g⟩
    · rw [if_neg g]; exact ⟨k + 1, Nat.le_refl _, rfl, Or.inl rfl⟩
theorem un_eq (hn : n ≤ 20) (hsym : ∀ a, a < 6 → ∀ b, b < 6 → bi (lw a) b = bi (lw b) a) (hv : ∀ f, f < n → ∀ i, i < 32 → bi (fv f) i = (decide (i < n) && decide (fp i = nI f))) {lt : Nat → Int32} (ht : Tol n lt) (hu : Int32) (t : TS) (nx : Nat → Int32) (f : Nat) {v : Nat} (hv6 : v < 6) : untR fm fb fv n f v (becT lw lm lb lt hu t) = unR (unM lw lm lb fm fb fp n f v (lt, nx) 41).2 := by
  have I := un_rel (fm := fm) (fb := fb) hn hsym hv ht (becT lw lm lb lt hu t) (fun v h => (becT_at lt hu t h).1) (fun v h => (becT_at lt hu t h).2.1) (fun v h => (becT_at lt hu t h).2.2.1) (fun v h => (becT_at lt hu t h).2.2.2) nx f hv6 40
  obtain ⟨j, hj, e, _⟩ := un_num (lw := lw) (lm := lm) (lb := lb) (fm := fm) (fb := fb) (fp := fp) hn (x := (lt, nx)) f v 40 (by omega)
  unfold untR unR
  rw [I.told v hv6, I.num, unM_succ lw lm lb fm fb fp n f v (lt, nx) 40]
  by_cases g : hs ((unM lw lm lb fm fb fp n f v (lt, nx) 40).1.1 v) (nI f) = true
  · have h40 : nI j ≤ (40 : Int32) := (nI_leI (a := j) (b := 40) (by omega) (by omega)).mpr hj
    rw [if_pos g, if_pos g, e, if_pos h40]
  · rw [if_neg g, if_neg g]
    show _ = if nI (40 + 1) ≤ 40 then _ else _
    rw [if_neg (by decide)]
end TRIAL
