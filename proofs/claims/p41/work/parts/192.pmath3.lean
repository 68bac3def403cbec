/-! favourites: upwards and downwards -/
def upF (c : Nat → Int32) : Nat → Int32 × Int32 := z_fold (fun m x => if c m ≤ x.2 then x else (nI m, c m)) (-1, 0)
theorem upF_succ (c : Nat → Int32) (k : Nat) : upF c (k + 1) = if c k ≤ (upF c k).2 then upF c k else (nI k, c k) := rfl
theorem up_at {c : Nat → Int32} {C : Nat → Nat} : ∀ k, k < 2 ^ 31 → (∀ m, m < k → c m = nI (C m) ∧ C m < 2 ^ 31) → (upF c k = (-1, 0) ∧ ∀ m, m < k → C m = 0) ∨ ∃ j, j < k ∧ upF c k = (nI j, nI (C j)) ∧ 0 < C j ∧ (∀ m, m < k → C m ≤ C j) ∧ ∀ m, m < j → C m < C j
  | 0, _, _ => Or.inl ⟨rfl, fun _ h => absurd h (Nat.not_lt_zero _)⟩
  | k + 1, hk, hc => by
    obtain ⟨e, hC⟩ := hc k (Nat.lt_succ_self k)
    rw [upF_succ, e]
    rcases up_at k (by omega) (fun m hm => hc m (by omega)) with ⟨h1, h2⟩ | ⟨j, hj, h1, h2, h3, h4⟩
    · rw [h1]
      dsimp only
      by_cases g : C k = 0
      · rw [if_pos (by rw [g]; decide)]
        exact Or.inl ⟨rfl, fun m hm => by
          by_cases q : m = k
          · rw [q]; exact g
          · exact h2 m (by omega)⟩
      · rw [if_neg (nI_nle (by omega) hC)]
        refine Or.inr ⟨k, by omega, rfl, by omega, fun m hm => ?_, fun m hm => by rw [h2 m hm]; omega⟩
        by_cases q : m = k
        · rw [q]; exact Nat.le_refl _
        · rw [h2 m (by omega)]; omega
    · rw [h1]
      dsimp only
      have hCj := (hc j (by omega)).2
      by_cases g : C k ≤ C j
      · rw [if_pos ((nI_leI hC hCj).mpr g)]
        refine Or.inr ⟨j, by omega, rfl, h2, fun m hm => ?_, h4⟩
        by_cases q : m = k
        · rw [q]; exact g
        · exact h3 m (by omega)
      · rw [if_neg (fun q => g ((nI_leI hC hCj).mp q))]
        refine Or.inr ⟨k, by omega, rfl, by omega, fun m hm => ?_, fun m hm => by have := h3 m hm; omega⟩
        by_cases q : m = k
        · rw [q]; exact Nat.le_refl _
        · have := h3 m (by omega); omega
theorem down_at {lv : Nat → Int32} {C : Nat → Nat} {hi : Nat} (hhi : hi < 2 ^ 31) (hc : ∀ m, m < hi → lv m = nI (C m) ∧ C m < 2 ^ 31) : ∀ d, d ≤ hi → (fvS lv hi d = -1 ∧ ∀ m, hi - d ≤ m → m < hi → C m = 0) ∨ ∃ j, hi - d ≤ j ∧ j < hi ∧ fvS lv hi d = nI j ∧ 0 < C j ∧ (∀ m, hi - d ≤ m → m < hi → C m ≤ C j) ∧ ∀ m, hi - d ≤ m → m < j → C m < C j
  | 0, _ => Or.inl ⟨rfl, fun m h1 h2 => absurd h2 (by omega)⟩
  | d + 1, hd => by
    obtain ⟨e, hC⟩ := hc (hi - 1 - d) (by omega)
    rw [fvS_succ, e]
    rcases down_at hhi hc d (by omega) with ⟨h1, h2⟩ | ⟨j, hj1, hj2, h1, h2, h3, h4⟩
    · rw [h1]
      by_cases g : C (hi - 1 - d) = 0
      · rw [if_pos (by rw [g]; decide)]
        exact Or.inl ⟨rfl, fun m q1 q2 => by
          by_cases q : m = hi - 1 - d
          · rw [q]; exact g
          · exact h2 m (by omega) q2⟩
      · rw [if_neg (nI_nle (by omega) hC), if_pos (by decide)]
        refine Or.inr ⟨hi - 1 - d, by omega, by omega, rfl, by omega, fun m q1 q2 => ?_, fun m q1 q2 => absurd q2 (by omega)⟩
        by_cases q : m = hi - 1 - d
        · rw [q]; exact Nat.le_refl _
        · rw [h2 m (by omega) q2]; omega
    · rw [h1]
      have hCj := (hc j hj2).2
      by_cases g : C (hi - 1 - d) = 0
      · rw [if_pos (by rw [g]; decide)]
        refine Or.inr ⟨j, by omega, hj2, rfl, h2, fun m q1 q2 => ?_, fun m q1 q2 => ?_⟩
        · by_cases q : m = hi - 1 - d
          · rw [q, g]; omega
          · exact h3 m (by omega) q2
        · by_cases q : m = hi - 1 - d
          · rw [q, g]; exact h2
          · exact h4 m (by omega) q2
      · rw [if_neg (nI_nle (by omega) hC), if_neg (nI_pos (by omega)), ix_nI (by omega), (hc j hj2).1]
        by_cases q0 : C (hi - 1 - d) < C j
        · rw [if_pos ((nI_ltI hC hCj).mpr q0)]
          refine Or.inr ⟨j, by omega, hj2, rfl, h2, fun m q1 q2 => ?_, fun m q1 q2 => ?_⟩
          · by_cases q : m = hi - 1 - d
            · rw [q]; omega
            · exact h3 m (by omega) q2
          · by_cases q : m = hi - 1 - d
            · rw [q]; exact q0
            · exact h4 m (by omega) q2
        · rw [if_neg (fun q => q0 ((nI_ltI hC hCj).mp q))]
          refine Or.inr ⟨hi - 1 - d, by omega, by omega, rfl, by omega, fun m q1 q2 => ?_, fun m q1 q2 => absurd q2 (by omega)⟩
          by_cases q : m = hi - 1 - d
          · rw [q]; exact Nat.le_refl _
          · have := h3 m (by omega) q2; omega
theorem up_down {c lv : Nat → Int32} {C : Nat → Nat} {lo N : Nat} (hN : lo + N < 2 ^ 31) (hc : ∀ m, m < N → c m = nI (C (lo + m)) ∧ C (lo + m) < 2 ^ 31) (hl : ∀ m, m < lo + N → lv m = nI (C m) ∧ C m < 2 ^ 31) : (upF c N).1 = fvR lv lo (lo + N) := by
  unfold fvR
  rw [show lo + N - lo = N by omega]
  rcases up_at (C := fun m => C (lo + m)) N (by omega) hc with ⟨h1, h2⟩ | ⟨j, hj, h1, h2, h3, h4⟩
  · rcases down_at hN hl N (by omega) with ⟨g1, _⟩ | ⟨i, i1, i2, g1, g2, _⟩
    · rw [h1, g1, if_pos (by decide)]
    · have := h2 (i - lo) (by omega)
      rw [show lo + (i - lo) = i by omega] at this
      omega
  · rcases down_at hN hl N (by omega) with ⟨g1, g2⟩ | ⟨i, i1, i2, g1, g2, g3, g4⟩
    · have := g2 (lo + j) (by omega) (by omega)
      omega
    · have e : i = lo + j := by
        rcases Nat.lt_trichotomy i (lo + j) with q | q | q
        · have a1 := h4 (i - lo) (by omega)
          rw [show lo + (i - lo) = i by omega] at a1
          have a2 := g3 (lo + j) (by omega) (by omega)
          omega
        · exact q
        · have a1 := g4 (lo + j) (by omega) q
          have a2 := h3 (i - lo) (by omega)
          rw [show lo + (i - lo) = i by omega] at a2
          omega
      rw [h1, g1, if_neg (nI_pos (by omega)), e]
      show nI j = nI (lo + j) - nI lo
      rw [← nI_add, Int32.add_comm, Int32.add_sub_cancel]
section PM3
variable {n : Nat} {fm fb fh fp fv fa lw lm lb lt : Nat → Int32} {MM HH : Nat → Nat} {PP : Nat → Int32} {BB TB MB AB PB : Nat → Nat → Bool}
/-- the tellings of the fables with w, a moral or ten and a beast -/
def lvC (MM : Nat → Nat) (BB TB : Nat → Nat → Bool) (w k : Nat) : Nat := fb_sm (fun f => if (if 10 ≤ w then BB f (w - 10) else decide (MM f = w)) then fb_ct (TB f) 6 else 0) k
theorem lv_ct (hM : ∀ k, k < n → MM k < 10) {w : Nat} (hw : w < 22) : ∀ k, k ≤ n → lvS MM BB TB w k = nI (lvC MM BB TB w k)
  | 0, _ => rfl
  | k + 1, hk => by
    rw [lvS_succ, lv_ct hM hw k (by omega)]
    show _ = nI (fb_sm _ k + _)
    rw [← nI_add]
    congr 1
    have hm := hM k (by omega)
    by_cases h : 10 ≤ w
    · rw [if_pos (show (10 : Int32) ≤ nI w from (nI_leI (a := 10) (b := w) (by omega) (by omega)).mpr h), va_ct]
      simp only [if_pos h]
      cases BB k (w - 10) <;> rfl
    · rw [if_neg (show ¬ (10 : Int32) ≤ nI w from fun q => h ((nI_leI (a := 10) (b := w) (by omega) (by omega)).mp q)), va_ct]
      simp only [if_neg h]
      by_cases e : MM k = w
      · rw [if_pos (by rw [e]), decide_eq_true e]; rfl
      · rw [if_neg (fun q => e ((nI_eq (by omega) (by omega)).mp q)), decide_eq_false e]; rfl
theorem ite6 (b : Bool) {k : Nat} (h : k ≤ 6) : (if b then k else 0) ≤ 6 := by cases b <;> simp [h]
theorem lvC_le (w k : Nat) : lvC MM BB TB w k ≤ k * 6 := fb_sm_bound (fun f _ => ite6 _ (fb_ct_le _ _))
theorem favX_lv (I : GI n fm fb fh fp fv fa lw lm lb lt MM HH PP BB TB MB AB PB) (b : Bool) {m : Nat} (hm : m < if b then 10 else 12) : ∀ k, k ≤ n → favX lt fm fb n b m k = lvS MM BB TB (if b then m else 10 + m) k
  | 0, _ => rfl
  | k + 1, hk => by
    have hn := I.hn
    have hr := I.row k (by omega)
    rw [favX_succ, lvS_succ, favX_lv I b hm k (by omega)]
    have hp : plS lt k 6 = vaS TB k 6 := pl_va (by omega) 6 (fun v hv => I.tb v hv k (by omega))
    rw [hp]
    cases b
    · simp only [Bool.false_eq_true, if_false] at hm ⊢
      rw [if_pos (show (10 : Int32) ≤ nI (10 + m) from (nI_leI (a := 10) (b := 10 + m) (by omega) (by omega)).mpr (by omega)), show 10 + m - 10 = m by omega, hs_bi _ (by omega), ← I.bb k (by omega) m hm]
      cases BB k m
      · simp
      · simp
    · simp only [if_true] at hm ⊢
      rw [if_neg (show ¬ (10 : Int32) ≤ nI m from fun q => absurd ((nI_leI (a := 10) (b := m) (by omega) (by omega)).mp q) (by omega)), hr.1]
      by_cases e : nI (MM k) = nI m <;> simp [e]
theorem favM_c (I : GI n fm fb fh fp fv fa lw lm lb lt MM HH PP BB TB MB AB PB) {m : Nat} (hm : m < 10) : cntS lt (wmS fm (nI m) n) 6 = nI (lvC MM BB TB m n) := by
  have h := fav_mk lt fm fb n true m n I.hn
  simp only [if_true] at h
  rw [wm_mk, h, favX_lv I true hm n (Nat.le_refl n)]
  simp only [if_true]
  exact lv_ct I.hMM (by omega) n (Nat.le_refl n)
theorem favB_c (I : GI n fm fb fh fp fv fa lw lm lb lt MM HH PP BB TB MB AB PB) {m : Nat} (hm : m < 12) : cntS lt (wbS fb (nI m) n) 6 = nI (lvC MM BB TB (10 + m) n) := by
  have h := fav_mk lt fm fb n false m n I.hn
  simp only [Bool.false_eq_true, if_false] at h
  rw [wb_mk, h, favX_lv I false hm n (Nat.le_refl n)]
  simp only [Bool.false_eq_true, if_false]
  exact lv_ct I.hMM (by omega) n (Nat.le_refl n)
theorem favM_eq (I : GI n fm fb fh fp fv fa lw lm lb lt MM HH PP BB TB MB AB PB) : (favM lt fm n 10).1 = fvR (lvN MM BB TB n) 0 10 := by
  have hn := I.hn
  have hb : ∀ w, lvC MM BB TB w n < 2 ^ 31 := fun w => by have := lvC_le (MM := MM) (BB := BB) (TB := TB) w n; omega
  exact up_down (lo := 0) (N := 10) (C := fun w => lvC MM BB TB w n) (by omega) (fun m hm => by
    rw [Nat.zero_add]
    exact ⟨favM_c I hm, hb m⟩) (fun m hm => ⟨lv_ct I.hMM (by omega) n (Nat.le_refl n), hb m⟩)
theorem favB_eq (I : GI n fm fb fh fp fv fa lw lm lb lt MM HH PP BB TB MB AB PB) : (favB lt fb n 12).1 = fvR (lvN MM BB TB n) 10 22 := by
  have hn := I.hn
  have hb : ∀ w, lvC MM BB TB w n < 2 ^ 31 := fun w => by have := lvC_le (MM := MM) (BB := BB) (TB := TB) w n; omega
  exact up_down (lo := 10) (N := 12) (C := fun w => lvC MM BB TB w n) (by omega) (fun m hm => ⟨favB_c I hm, hb _⟩) (fun m hm => ⟨lv_ct I.hMM (by omega) n (Nat.le_refl n), hb m⟩)
/-! what is gathered -/
theorem wtI_at (f : Nat) (a : Nat → Int32) : ∀ k, ∀ i, wtI BB f a k i = if 10 ≤ i ∧ i < 10 + k then a i + z_b (BB f (i - 10)) else a i
  | 0, i => by rw [wtI_0, if_neg (by omega)]
  | k + 1, i => by
    rw [wtI_succ]
    by_cases e : i = 10 + k
    · subst e
      rw [upd_at, wtI_at f a k, if_neg (by omega), if_pos (by omega), show 10 + k - 10 = k by omega]
    · rw [upd_ne _ _ e, wtI_at f a k]
      by_cases g : 10 ≤ i ∧ i < 10 + k
      · rw [if_pos g, if_pos (by omega)]
      · rw [if_neg g, if_neg (by omega)]
theorem wtO_at (hM : ∀ k, k < n → MM k < 10) : ∀ k, k ≤ n → (∀ m, m < 10 → wtO MM BB k m = nI (fb_ct (fun f => decide (MM f = m)) k)) ∧ ∀ b, b < 12 → wtO MM BB k (10 + b) = nI (fb_ct (fun f => BB f b) k)
  | 0, _ => ⟨fun _ _ => rfl, fun _ _ => rfl⟩
  | k + 1, hk => by
    obtain ⟨h1, h2⟩ := wtO_at hM k (by omega)
    have hm := hM k (by omega)
    refine ⟨fun m hm1 => ?_, fun b hb => ?_⟩
    · rw [wtO_succ, fb_ct_succ, ← nI_step, ← h1 m hm1]
      by_cases e : m = MM k
      · subst e
        rw [upd_at, wtI_at, if_neg (by omega)]; simp
      · rw [upd_ne _ _ e, wtI_at, if_neg (by omega)]; simp [Ne.symm e]
    · rw [wtO_succ, fb_ct_succ, ← nI_step, ← h2 b hb, upd_ne _ _ (by omega), wtI_at, if_pos (by omega), show 10 + b - 10 = b by omega]; rfl
theorem wm_eq (I : GI n fm fb fh fp fv fa lw lm lb lt MM HH PP BB TB MB AB PB) {m : Nat} (hm : m < 10) : pc (wmS fm (nI m) n) = wtO MM BB n m := by
  have hn := I.hn
  rw [wm_mk, mk_pc _ (by omega), (wtO_at I.hMM n (Nat.le_refl n)).1 m hm]
  congr 1
  refine fb_ct_cong (fun f hf => ?_)
  have hr := I.row f hf
  rw [hr.1]
  exact decide_eq_decide.mpr (nI_eq (by omega) (by omega))
theorem wb_eq (I : GI n fm fb fh fp fv fa lw lm lb lt MM HH PP BB TB MB AB PB) {b : Nat} (hb : b < 12) : pc (wbS fb (nI b) n) = wtO MM BB n (10 + b) := by
  have hn := I.hn
  rw [wb_mk, mk_pc _ (by omega), (wtO_at I.hMM n (Nat.le_refl n)).2 b hb]
  congr 1
  refine fb_ct_cong (fun f hf => ?_)
  rw [hs_bi _ (by omega), I.bb f hf b hb]
theorem chi_eq (I : GI n fm fb fh fp fv fa lw lm lb lt MM HH PP BB TB MB AB PB) {f : Nat} (hf : f < n) : pc (fv f) = chP2 PP f n := by
  rw [ch_pc I.hn (I.inv.var f hf)]
  have : ∀ k, k ≤ n → chS fp f k = chP2 PP f k := by
    intro k
    induction k with
    | zero => exact fun _ => rfl
    | succ k ih => exact fun hk => by rw [chS_succ, chP2_succ, ih (by omega), (I.row k (by omega)).2.2.2]
  exact this n (Nat.le_refl n)
theorem in_eq (I : GI n fm fb fh fp fv fa lw lm lb lt MM HH PP BB TB MB AB PB) {v : Nat} (hv : v < 6) : pc (lt v) = inS TB v n := by
  have hn := I.hn
  have : ∀ k, inS TB v k = nI (fb_ct (fun f => TB f v) k) := by
    intro k
    induction k with
    | zero => rfl
    | succ k ih => rw [inS_succ, ih, fb_ct_succ, ← nI_step]; rfl
  rw [this, pcb (by omega) (I.inv.tol v hv)]
  congr 1
  exact fb_ct_cong (fun f hf => (I.tb v hv f (by omega)).symm)
theorem aw_eq (I : GI n fm fb fh fp fv fa lw lm lb lt MM HH PP BB TB MB AB PB) {v : Nat} (hv : v < 6) : pc (welS lm lb fm fb v n) = awP MM BB MB AB v n := by
  have hn := I.hn
  have : ∀ k, awP MM BB MB AB v k = nI (fb_ct (fun f => !bnS MM BB MB AB f v 12) k) := by
    intro k
    induction k with
    | zero => rfl
    | succ k ih =>
      rw [awP_succ, ih, fb_ct_succ, ← nI_step]
      cases bnS MM BB MB AB k v 12 <;> rfl
  rw [this, wel_mk, mk_pc _ (by omega)]
  congr 1
  exact fb_ct_cong (fun f hf => by rw [bn_ban I hf hv])
theorem bans_eq (I : GI n fm fb fh fp fv fa lw lm lb lt MM HH PP BB TB MB AB PB) {v : Nat} (hv : v < 6) : pc (lm v) + pc (lb v) = vbS AB v (vaS MB v 10) 12 := by
  have : ∀ a k, vbS AB v a k = a + nI (fb_ct (AB v) k) := by
    intro a k
    induction k with
    | zero => show a = a + 0; rw [Int32.add_zero]
    | succ k ih => rw [vbS_succ, ih, fb_ct_succ, ← nI_step, Int32.add_assoc]; rfl
  rw [this, va_ct, pcb (by omega) (I.m10 v hv), pcb (by omega) (I.a12 v hv)]
  congr 1
  · congr 1; exact fb_ct_cong (fun m hm => (I.mb v hv m hm).symm)
  · congr 1; exact fb_ct_cong (fun b hb => (I.ab v hv b hb).symm)
theorem su_eq (I : GI n fm fb fh fp fv fa lw lm lb lt MM HH PP BB TB MB AB PB) : ∀ k, k ≤ n → suS BB k = sumB fb k
  | 0, _ => rfl
  | k + 1, hk => by rw [suS_succ, sumB_succ, su_eq I k (by omega), bea_eq I (by omega)]
end PM3
theorem dv2 : ∀ i, i < 641 → ∀ j, j < 20 → Op.cmpValue (FP.dcmp (FP.ddiv (FP.i2d (nI i)) (FP.i2d (nI (j + 1)))) (FP.ddiv (FP.i2d (nI i)) (FP.i2d (nI (j + 1))))) .l = 0 := by decide +kernel
theorem mea_self (fb : Nat → Int32) {n : Nat} (hn : n ≤ 20) (h : ¬ nI n = 0) : Op.cmpValue (FP.dcmp (FP.ddiv (FP.i2d (sumB fb n)) (FP.i2d (nI n))) (FP.ddiv (FP.i2d (sumB fb n)) (FP.i2d (nI n)))) .l = 0 := by
  obtain ⟨i, hi, e⟩ := sumB_le fb n
  have h0 : n ≠ 0 := fun e => h (by rw [e]; rfl)
  rw [e]
  have := dv2 i (by omega) (n - 1) (by omega)
  rw [show n - 1 + 1 = n by omega] at this
  exact this
theorem mea_pos (fb : Nat → Int32) {n : Nat} (h : ¬ nI n = 0) : meaD fb n = FP.ddiv (FP.i2d (sumB fb n)) (FP.i2d (nI n)) := if_neg h
