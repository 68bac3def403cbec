/-! the simulation's truths against the class's bits -/
def GI (n : Nat) (fm fb fh fp fv fa lw lm lb lt : Nat → Int32) (MM HH : Nat → Nat) (PP : Nat → Int32) (BB TB MB AB PB : Nat → Nat → Bool) : Prop :=
  Inv n fp fv fa lw lt ∧
  (∀ k, k < n → fm k = nI (MM k) ∧ MM k < 10 ∧ fh k = nI (HH k) ∧ PP k = fp k) ∧
  (∀ k, k < n → ∀ b, b < 12 → BB k b = bi (fb k) b) ∧ (∀ k, k < n → ∀ i, i < 32 → bi (fb k) i = true → i < 12) ∧
  (∀ v, v < 6 → ∀ f, f < 20 → TB f v = bi (lt v) f) ∧
  (∀ v, v < 6 → ∀ m, m < 10 → MB v m = bi (lm v) m) ∧ (∀ v, v < 6 → ∀ i, i < 32 → bi (lm v) i = true → i < 10) ∧
  (∀ v, v < 6 → ∀ b, b < 12 → AB v b = bi (lb v) b) ∧ (∀ v, v < 6 → ∀ i, i < 32 → bi (lb v) i = true → i < 12) ∧
  (∀ v, v < 6 → ∀ w, w < 6 → PB v w = bi (lw v) w) ∧ (∀ v, v < 6 → bi (lw v) v = false) ∧
  (∀ k, k < n → 1 ≤ fb_ct (bi (fb k)) 12) ∧
  (∀ k, k < n → ∀ j, j < k → fp k = nI j → fm k = fm j ∧ fb_ct (bi (fb j)) 12 ≤ fb_ct (bi (fb k)) 12 ∧ fb_ct (bi (fb j)) 12 ≤ fb_ct (fun b => bi (fb k) b && bi (fb j) b) 12 + 1)
/-! counts -/
theorem va_ct (T : Nat → Nat → Bool) (f : Nat) : ∀ k, vaS T f k = nI (fb_ct (T f) k)
  | 0 => rfl
  | k + 1 => by
    rw [vaS_succ, va_ct T f k, fb_ct_succ, ← nI_step]; rfl
theorem te_ct (T : Nat → Nat → Bool) : ∀ k, teS T k = nI (fb_sm (fun f => fb_ct (T f) 6) k)
  | 0 => rfl
  | k + 1 => by rw [teS_succ, te_ct T k, va_ct, fb_sm_succ]; exact nI_add _ _
theorem pcb {x : Int32} {d : Nat} (hd : d ≤ 32) (h : ∀ i, i < 32 → bi x i = true → i < d) : pc x = nI (fb_ct (bi x) d) := by
  unfold pc
  rw [pcN_n hd (fun i h1 h2 => by
    cases g : bi x i
    · rfl
    · exact absurd (h i h2 g) (by omega))]
theorem pl_va {lt : Nat → Int32} {T : Nat → Nat → Bool} {f : Nat} (hf : f < 32) : ∀ k, (∀ v, v < k → T f v = bi (lt v) f) → plS lt f k = vaS T f k
  | 0, _ => rfl
  | k + 1, h => by rw [plS_succ, vaS_succ, pl_va hf k (fun v hv => h v (by omega)), hs_bi _ hf, h k (by omega)]
theorem sm_ite (p : Nat → Bool) : ∀ m, fb_sm (fun v => if p v then 1 else 0) m = fb_ct p m
  | 0 => rfl
  | m + 1 => by rw [fb_sm_succ, fb_ct_succ, sm_ite p m]
theorem ct_swap (T : Nat → Nat → Bool) (m : Nat) : ∀ n, fb_sm (fun f => fb_ct (T f) m) n = fb_sm (fun v => fb_ct (fun f => T f v) n) m
  | 0 => by
    show 0 = fb_sm (fun v => 0) m
    rw [fb_sm_const]; rfl
  | n + 1 => by
    rw [fb_sm_succ, ct_swap T m n]
    show _ = fb_sm (fun v => fb_ct (fun f => T f v) n + (if T n v then 1 else 0)) m
    rw [fb_sm_add, sm_ite]
theorem allM_ct {lt : Nat → Int32} {n : Nat} (hn : n ≤ 20) (ht : ∀ v, v < 6 → ∀ i, i < 32 → bi (lt v) i = true → i < n) : ∀ k, k ≤ 6 → allM lt k = nI (fb_sm (fun v => fb_ct (bi (lt v)) n) k)
  | 0, _ => rfl
  | k + 1, hk => by
    rw [allM_succ, allM_ct hn ht k (by omega), pcb (by omega) (ht k (by omega)), fb_sm_succ]; exact nI_add _ _
theorem te_all {lt : Nat → Int32} {T : Nat → Nat → Bool} {n : Nat} (hn : n ≤ 20) (ht : ∀ v, v < 6 → ∀ i, i < 32 → bi (lt v) i = true → i < n) (hT : ∀ v, v < 6 → ∀ f, f < 20 → T f v = bi (lt v) f) : allM lt 6 = teS T n := by
  rw [allM_ct hn ht 6 (Nat.le_refl 6), te_ct, ct_swap]
  congr 1
  refine fb_sm_cong (fun f hf => fb_ct_cong (fun v hv => ?_))
  rw [hT v hv f (by omega)]
/-! bans -/
section PM
variable {n : Nat} {fm fb fh fp fv fa lw lm lb lt : Nat → Int32} {MM HH : Nat → Nat} {PP : Nat → Int32} {BB TB MB AB PB : Nat → Nat → Bool}
theorem GI.inv (I : GI n fm fb fh fp fv fa lw lm lb lt MM HH PP BB TB MB AB PB) : Inv n fp fv fa lw lt := I.1
theorem GI.row (I : GI n fm fb fh fp fv fa lw lm lb lt MM HH PP BB TB MB AB PB) : ∀ k, k < n → fm k = nI (MM k) ∧ MM k < 10 ∧ fh k = nI (HH k) ∧ PP k = fp k := I.2.1
theorem GI.bb (I : GI n fm fb fh fp fv fa lw lm lb lt MM HH PP BB TB MB AB PB) : ∀ k, k < n → ∀ b, b < 12 → BB k b = bi (fb k) b := I.2.2.1
theorem GI.b12 (I : GI n fm fb fh fp fv fa lw lm lb lt MM HH PP BB TB MB AB PB) : ∀ k, k < n → ∀ i, i < 32 → bi (fb k) i = true → i < 12 := I.2.2.2.1
theorem GI.tb (I : GI n fm fb fh fp fv fa lw lm lb lt MM HH PP BB TB MB AB PB) : ∀ v, v < 6 → ∀ f, f < 20 → TB f v = bi (lt v) f := I.2.2.2.2.1
theorem GI.mb (I : GI n fm fb fh fp fv fa lw lm lb lt MM HH PP BB TB MB AB PB) : ∀ v, v < 6 → ∀ m, m < 10 → MB v m = bi (lm v) m := I.2.2.2.2.2.1
theorem GI.m10 (I : GI n fm fb fh fp fv fa lw lm lb lt MM HH PP BB TB MB AB PB) : ∀ v, v < 6 → ∀ i, i < 32 → bi (lm v) i = true → i < 10 := I.2.2.2.2.2.2.1
theorem GI.ab (I : GI n fm fb fh fp fv fa lw lm lb lt MM HH PP BB TB MB AB PB) : ∀ v, v < 6 → ∀ b, b < 12 → AB v b = bi (lb v) b := I.2.2.2.2.2.2.2.1
theorem GI.a12 (I : GI n fm fb fh fp fv fa lw lm lb lt MM HH PP BB TB MB AB PB) : ∀ v, v < 6 → ∀ i, i < 32 → bi (lb v) i = true → i < 12 := I.2.2.2.2.2.2.2.2.1
theorem GI.pb (I : GI n fm fb fh fp fv fa lw lm lb lt MM HH PP BB TB MB AB PB) : ∀ v, v < 6 → ∀ w, w < 6 → PB v w = bi (lw v) w := I.2.2.2.2.2.2.2.2.2.1
theorem GI.self (I : GI n fm fb fh fp fv fa lw lm lb lt MM HH PP BB TB MB AB PB) : ∀ v, v < 6 → bi (lw v) v = false := I.2.2.2.2.2.2.2.2.2.2.1
theorem GI.one (I : GI n fm fb fh fp fv fa lw lm lb lt MM HH PP BB TB MB AB PB) : ∀ k, k < n → 1 ≤ fb_ct (bi (fb k)) 12 := I.2.2.2.2.2.2.2.2.2.2.2.1
theorem GI.par (I : GI n fm fb fh fp fv fa lw lm lb lt MM HH PP BB TB MB AB PB) : ∀ k, k < n → ∀ j, j < k → fp k = nI j → fm k = fm j ∧ fb_ct (bi (fb j)) 12 ≤ fb_ct (bi (fb k)) 12 ∧ fb_ct (bi (fb j)) 12 ≤ fb_ct (fun b => bi (fb k) b && bi (fb j) b) 12 + 1 := I.2.2.2.2.2.2.2.2.2.2.2.2
theorem GI.hn (I : GI n fm fb fh fp fv fa lw lm lb lt MM HH PP BB TB MB AB PB) : n ≤ 20 := I.inv.hn
theorem GI.hMM (I : GI n fm fb fh fp fv fa lw lm lb lt MM HH PP BB TB MB AB PB) : ∀ k, k < n → MM k < 10 := fun k hk => (I.row k hk).2.1
theorem bnS_iff (f v : Nat) : ∀ k, bnS MM BB MB AB f v k = true ↔ MB v (MM f) = true ∨ ∃ b, b < k ∧ BB f b = true ∧ AB v b = true
  | 0 => by rw [bnS_0]; simp
  | k + 1 => by
    rw [bnS_succ, Bool.or_eq_true, bnS_iff f v k, Bool.and_eq_true]
    constructor
    · rintro ((h | ⟨b, h, g⟩) | g)
      · exact Or.inl h
      · exact Or.inr ⟨b, by omega, g⟩
      · exact Or.inr ⟨k, by omega, g⟩
    · rintro (h | ⟨b, h, g⟩)
      · exact Or.inl (Or.inl h)
      · by_cases e : b = k
        · subst e; exact Or.inr g
        · exact Or.inl (Or.inr ⟨b, by omega, g⟩)
theorem bn_ban (I : GI n fm fb fh fp fv fa lw lm lb lt MM HH PP BB TB MB AB PB) {f v : Nat} (hf : f < n) (hv : v < 6) : bnS MM BB MB AB f v 12 = ban lm lb fm fb f v := by
  have hr := I.row f hf
  rw [Bool.eq_iff_iff, bnS_iff]
  unfold ban
  rw [Bool.or_eq_true, decide_eq_true_iff, hr.1, hs_bi _ (by omega), I.mb v hv _ hr.2.1]
  refine or_congr Iff.rfl ?_
  constructor
  · rintro ⟨b, hb, h1, h2⟩ e
    have := eq0_bi.mp e b (by omega)
    rw [bi_and, ← I.ab v hv b hb, ← I.bb f hf b hb, h1, h2] at this
    cases this
  · intro e
    have : ∃ i, i < 32 ∧ bi (lb v &&& fb f) i = true := by
      refine Classical.byContradiction (fun h => e (eq0_bi.mpr (fun i hi => ?_)))
      cases g : bi (lb v &&& fb f) i
      · rfl
      · exact absurd ⟨i, hi, g⟩ h
    obtain ⟨i, hi, g⟩ := this
    rw [bi_and, Bool.and_eq_true] at g
    have h12 := I.b12 f hf i hi g.2
    exact ⟨i, h12, by rw [I.bb f hf i h12]; exact g.2, by rw [I.ab v hv i h12]; exact g.1⟩
/-! a season -/
theorem p1I_at (f : Nat) (x : (Nat → Nat → Bool) × Int32) : ∀ k, (p1I MM BB MB AB f x k).1 = (fun g j => if g = f ∧ j < k then x.1 g j && !bnS MM BB MB AB g j 12 else x.1 g j) ∧ (p1I MM BB MB AB f x k).2 = x.2 + nI (fb_ct (fun j => x.1 f j && bnS MM BB MB AB f j 12) k)
  | 0 => ⟨funext fun g => funext fun j => by rw [p1I_0, if_neg (by omega)], by rw [p1I_0]; show _ = x.2 + 0; rw [Int32.add_zero]⟩
  | k + 1 => by
    obtain ⟨h1, h2⟩ := p1I_at f x k
    have hc : (p1I MM BB MB AB f x k).1 f k = x.1 f k := by rw [h1]; exact if_neg (by omega)
    rw [p1I_succ, hc, fb_ct_succ]
    by_cases a : x.1 f k = true
    · rw [if_pos a]
      by_cases b : bnS MM BB MB AB f k 12 = true
      · rw [if_pos b]
        refine ⟨funext fun g => funext fun j => ?_, ?_⟩
        · show up2 (p1I MM BB MB AB f x k).1 f k false g j = _
          rw [h1]
          unfold up2
          by_cases e1 : g = f
          · subst e1
            by_cases e2 : j = k
            · subst e2; simp [b]
            · by_cases e3 : j < k
              · simp [e2, e3, Nat.lt_succ_of_lt e3]
              · simp [e2, e3, show ¬ j < k + 1 by omega]
          · simp [e1]
        · show (p1I MM BB MB AB f x k).2 + 1 = _
          rw [h2, a, b]
          simp only [Bool.and_self, if_true]
          rw [Int32.add_assoc, nI_1]
      · rw [if_neg b]
        refine ⟨funext fun g => funext fun j => ?_, ?_⟩
        · rw [h1]
          by_cases e1 : g = f ∧ j = k
          · obtain ⟨rfl, rfl⟩ := e1
            simp [Bool.not_eq_true _ ▸ b]
          · by_cases e3 : g = f ∧ j < k
            · simp [e3.1, e3.2, Nat.lt_succ_of_lt e3.2]
            · dsimp only; rw [if_neg e3, if_neg (fun h => e3 ⟨h.1, by have : j ≠ k := fun e => e1 ⟨h.1, e⟩; omega⟩)]
        · rw [h2]; simp [b]
    · rw [if_neg a]
      refine ⟨funext fun g => funext fun j => ?_, ?_⟩
      · rw [h1]
        by_cases e1 : g = f ∧ j = k
        · obtain ⟨rfl, rfl⟩ := e1
          simp [a]
        · by_cases e3 : g = f ∧ j < k
          · simp [e3.1, e3.2, Nat.lt_succ_of_lt e3.2]
          · dsimp only; rw [if_neg e3, if_neg (fun h => e3 ⟨h.1, by have : j ≠ k := fun e => e1 ⟨h.1, e⟩; omega⟩)]
      · rw [h2]; simp [a]
theorem p1O_at (x : (Nat → Nat → Bool) × Int32) : ∀ k, (p1O MM BB MB AB x k).1 = (fun g j => if g < k ∧ j < 6 then x.1 g j && !bnS MM BB MB AB g j 12 else x.1 g j) ∧ (p1O MM BB MB AB x k).2 = x.2 + nI (fb_sm (fun g => fb_ct (fun j => x.1 g j && bnS MM BB MB AB g j 12) 6) k)
  | 0 => ⟨funext fun g => funext fun j => by rw [p1O_0, if_neg (by omega)], by rw [p1O_0]; show _ = x.2 + 0; rw [Int32.add_zero]⟩
  | k + 1 => by
    obtain ⟨h1, h2⟩ := p1O_at x k
    obtain ⟨g1, g2⟩ := p1I_at (MM := MM) (BB := BB) (MB := MB) (AB := AB) k (p1O MM BB MB AB x k) 6
    have hrow : ∀ j, (p1O MM BB MB AB x k).1 k j = x.1 k j := fun j => by rw [h1]; exact if_neg (by omega)
    rw [p1O_succ, fb_sm_succ]
    refine ⟨?_, ?_⟩
    · rw [g1, h1]
      funext g j
      by_cases e1 : g = k
      · subst e1
        by_cases e2 : j < 6
        · simp [e2]
        · simp [e2]
      · by_cases e2 : g < k ∧ j < 6
        · dsimp only; rw [if_neg (by omega), if_pos e2, if_pos ⟨by omega, e2.2⟩]
        · dsimp only; rw [if_neg (by omega), if_neg e2, if_neg (by omega)]
    · rw [g2, h2]
      have : (fun j => (p1O MM BB MB AB x k).1 k j && bnS MM BB MB AB k j 12) = (fun j => x.1 k j && bnS MM BB MB AB k j 12) := funext fun j => by rw [hrow j]
      rw [this, Int32.add_assoc, nI_add]
theorem cmD_at (p : Nat → Bool) {n : Nat} : ∀ d, d ≤ n → (cmD p n d = -1 ∧ ∀ k, n - d ≤ k → k < n → p k = false) ∨ ∃ i, n - d ≤ i ∧ i < n ∧ cmD p n d = nI i ∧ p i = true ∧ ∀ j, n - d ≤ j → j < i → p j = false
  | 0, _ => Or.inl ⟨rfl, fun k h1 h2 => absurd h2 (by omega)⟩
  | d + 1, h => by
    rw [cmD_succ]
    by_cases g : p (n - 1 - d) = true
    · rw [if_pos g]
      exact Or.inr ⟨n - 1 - d, by omega, by omega, rfl, g, fun j h1 h2 => absurd h2 (by omega)⟩
    · rw [if_neg g]
      have g' : p (n - 1 - d) = false := by simpa using g
      rcases cmD_at p (n := n) d (by omega) with ⟨h1, h2⟩ | ⟨i, h1, h2, h3, h4, h5⟩
      · refine Or.inl ⟨h1, fun k q1 q2 => ?_⟩
        by_cases e : k = n - 1 - d
        · rw [e]; exact g'
        · exact h2 k (by omega) q2
      · refine Or.inr ⟨i, by omega, h2, h3, h4, fun j q1 q2 => ?_⟩
        by_cases e : j = n - 1 - d
        · rw [e]; exact g'
        · exact h5 j (by omega) q2
theorem cm_com (I : GI n fm fb fh fp fv fa lw lm lb lt MM HH PP BB TB MB AB PB) {f to : Nat} (hf : f < n) (ht : to < 6) : cmS MM PP BB MB AB n f to = comS lm lb fm fb fp n f to := by
  have hn := I.hn
  unfold cmS comS
  rw [bn_ban I hf ht, (I.row f hf).1, hs_bi _ (by have := (I.row f hf).2.1; omega), ← I.mb to ht _ (I.row f hf).2.1]
  have hp : ∀ k, k < n → chP MM PP BB MB AB f to k = varP lm lb fm fb fp f to k := fun k hk => by
    unfold chP varP
    rw [bn_ban I hk ht, (I.row k hk).2.2.2]
  have key : cmD (chP MM PP BB MB AB f to) n n = fstF (varP lm lb fm fb fp f to) n := by
    rcases cmD_at (chP MM PP BB MB AB f to) (n := n) n (Nat.le_refl n) with ⟨h1, h2⟩ | ⟨i, h1, h2, h3, h4, h5⟩
    · rcases fst_cases (varP lm lb fm fb fp f to) n (by omega) with ⟨g1, _⟩ | ⟨j, g1, _, g3, _⟩
      · rw [h1, g1]
      · rw [← hp j g1, h2 j (by omega) g1] at g3; cases g3
    · rw [h3]
      exact ((fst_eq (by omega) (by omega)).mpr ⟨h2, by rw [← hp i h2]; exact h4, fun j hj => by rw [← hp j (by omega)]; exact h5 j (by omega) hj⟩).symm
  rw [key]
theorem p2T_at {n : Nat} (hn : n ≤ 20) {f : Nat} (hf : f < n) (v : Nat) (a : Nat → Nat → Bool) : ∀ k, ∀ i, i < 32 → ∀ j, (p2T MM PP BB MB AB PB n f v a k i j = true ↔ a i j = true ∨ (j < k ∧ PB v j = true ∧ cmS MM PP BB MB AB n f j = nI i))
  | 0, i, _, j => by rw [p2T_0]; simp
  | k + 1, i, hi, j => by
    have ih := p2T_at hn hf v a k i hi j
    rw [p2T_succ]
    have step : (j < k + 1 ∧ PB v j = true ∧ cmS MM PP BB MB AB n f j = nI i) ↔ (j < k ∧ PB v j = true ∧ cmS MM PP BB MB AB n f j = nI i) ∨ (j = k ∧ PB v k = true ∧ cmS MM PP BB MB AB n f k = nI i) := by
      constructor
      · rintro ⟨h1, h2⟩
        by_cases e : j = k
        · subst e; exact Or.inr ⟨rfl, h2⟩
        · exact Or.inl ⟨by omega, h2⟩
      · rintro (⟨h1, h2⟩ | ⟨rfl, h2⟩)
        · exact ⟨by omega, h2⟩
        · exact ⟨by omega, h2⟩
    rw [step, ← or_assoc, ← ih]
    by_cases g : PB v k = true
    · rw [if_pos g]
      rcases cmS_cases MM PP BB MB AB k hf with h1 | ⟨m, hm, h1⟩
      · rw [if_pos (by rw [h1]; decide)]
        constructor
        · exact Or.inl
        · rintro (h | ⟨_, _, h⟩)
          · exact h
          · rw [h1] at h; exact absurd h.symm (nI_ne_m1 (by omega))
      · rw [if_neg (by rw [h1]; exact nI_pos (by omega)), h1, ix_nI (by omega)]
        unfold up2
        by_cases e1 : i = m
        · subst e1
          by_cases e2 : j = k
          · subst e2; simp [g]
          · simp [e2]
        · rw [if_neg e1]
          constructor
          · exact Or.inl
          · rintro (h | ⟨_, _, h⟩)
            · exact h
            · exact absurd ((nI_eq (by omega) (by omega)).mp h).symm e1
    · rw [if_neg g]
      constructor
      · exact Or.inl
      · rintro (h | ⟨_, h, _⟩)
        · exact h
        · exact absurd h g
theorem p2V_at {n : Nat} (hn : n ≤ 20) {f : Nat} (hf : f < n) (T a : Nat → Nat → Bool) : ∀ k, ∀ i, i < 32 → ∀ j, (p2V MM PP BB T MB AB PB n f a k i j = true ↔ a i j = true ∨ ∃ v, v < k ∧ T f v = true ∧ ((i = f ∧ j = v) ∨ (j < 6 ∧ PB v j = true ∧ cmS MM PP BB MB AB n f j = nI i)))
  | 0, i, _, j => by rw [p2V_0]; simp
  | k + 1, i, hi, j => by
    have ih := p2V_at hn hf T a k i hi j
    rw [p2V_succ]
    by_cases g : T f k = true
    · rw [if_pos g, p2T_at hn hf k _ 6 i hi j]
      have hu : up2 (p2V MM PP BB T MB AB PB n f a k) f k true i j = true ↔ p2V MM PP BB T MB AB PB n f a k i j = true ∨ (i = f ∧ j = k) := by
        unfold up2
        by_cases e1 : i = f
        · by_cases e2 : j = k <;> simp [e1, e2]
        · simp [e1]
      rw [hu, ih]
      constructor
      · rintro (((h | ⟨v, h, q⟩) | h) | h)
        · exact Or.inl h
        · exact Or.inr ⟨v, by omega, q⟩
        · exact Or.inr ⟨k, by omega, g, Or.inl h⟩
        · exact Or.inr ⟨k, by omega, g, Or.inr h⟩
      · rintro (h | ⟨v, h, q1, q2⟩)
        · exact Or.inl (Or.inl (Or.inl h))
        · by_cases e : v = k
          · subst e
            exact q2.elim (fun q => Or.inl (Or.inr q)) Or.inr
          · exact Or.inl (Or.inl (Or.inr ⟨v, by omega, q1, q2⟩))
    · rw [if_neg g, ih]
      constructor
      · rintro (h | ⟨v, h, q⟩)
        · exact Or.inl h
        · exact Or.inr ⟨v, by omega, q⟩
      · rintro (h | ⟨v, h, q1, q2⟩)
        · exact Or.inl h
        · by_cases e : v = k
          · subst e; exact absurd q1 g
          · exact Or.inr ⟨v, by omega, q1, q2⟩
theorem p2F_at {n : Nat} (hn : n ≤ 20) (T a : Nat → Nat → Bool) : ∀ k, k ≤ n → ∀ i, i < 32 → ∀ j, (p2F MM PP BB T MB AB PB n a k i j = true ↔ a i j = true ∨ ∃ f, f < k ∧ ∃ v, v < 6 ∧ T f v = true ∧ ((i = f ∧ j = v) ∨ (j < 6 ∧ PB v j = true ∧ cmS MM PP BB MB AB n f j = nI i)))
  | 0, _, i, _, j => by rw [p2F_0]; simp
  | k + 1, hk, i, hi, j => by
    rw [p2F_succ, p2V_at hn (by omega) T _ 6 i hi j, p2F_at hn T a k (by omega) i hi j]
    constructor
    · rintro ((h | ⟨f, h, q⟩) | h)
      · exact Or.inl h
      · exact Or.inr ⟨f, by omega, q⟩
      · exact Or.inr ⟨k, by omega, h⟩
    · rintro (h | ⟨f, h, q⟩)
      · exact Or.inl (Or.inl h)
      · by_cases e : f = k
        · subst e; exact Or.inr q
        · exact Or.inl (Or.inr ⟨f, by omega, q⟩)
/-- one season of both -/
theorem ps_sea (I : GI n fm fb fh fp fv fa lw lm lb lt MM HH PP BB TB MB AB PB) {lt' : Nat → Int32} {T : Nat → Nat → Bool} (ht : Tol n lt') (hT : ∀ v, v < 6 → ∀ f, f < 20 → T f v = bi (lt' v) f) (nx : Nat → Int32) (sl : Int32) : (∀ v, v < 6 → ∀ f, f < 20 → (psT MM PP BB MB AB PB n (T, sl)).1 f v = bi (seaL lw lm lb fm fb fp n lt' nx v) f) ∧ (psT MM PP BB MB AB PB n (T, sl)).2 = sl + seaG lm lb fm fb n lt' nx := by
  have hn := I.hn
  obtain ⟨h1, h2⟩ := p1O_at (MM := MM) (BB := BB) (MB := MB) (AB := AB) (T, sl) n
  have hla : LA lm lb fm fb n (alS lm lb fm fb n (fun _ => 0) 6) := LA_al hn (fun _ _ => rfl) (fun _ _ => rfl)
  have hKT : KT lm lb fm fb n lt' (fun v => lt' v &&& alS lm lb fm fb n (fun _ => 0) 6 v) := KT_and hla ht (fun _ _ => rfl)
  have hK : ∀ f, f < n → ∀ v, v < 6 → ((p1O MM BB MB AB (T, sl) n).1 f v = true ↔ bi (lt' v &&& alS lm lb fm fb n (fun _ => 0) 6 v) f = true) := fun f hf v hv => by
    rw [h1, hKT v hv f (by omega), decide_eq_true hf, Bool.true_and]
    show (if f < n ∧ v < 6 then T f v && !bnS MM BB MB AB f v 12 else T f v) = true ↔ _
    rw [if_pos ⟨hf, hv⟩, bn_ban I hf hv, hT v hv f (by omega)]
  refine ⟨fun v hv f hf => ?_, ?_⟩
  · rw [Bool.eq_iff_iff, seaL_in _ _ hv, seaN_bi hn I.inv.sym lt' nx hKT hv (by omega)]
    show p2F MM PP BB (p1O MM BB MB AB (T, sl) n).1 MB AB PB n (fun _ _ => false) n f v = true ↔ _
    rw [p2F_at hn _ _ n (Nat.le_refl n) f (by omega) v]
    unfold NB
    constructor
    · rintro (h | ⟨g, hg, w, hw, q1, (⟨rfl, rfl⟩ | ⟨q2, q3, q4⟩)⟩)
      · cases h
      · exact Or.inl ((hK _ hg _ hw).mp q1)
      · refine Or.inr ⟨g, hg, ⟨w, hw, ?_, (hK g hg w hw).mp q1⟩, by rw [← cm_com I hg hv]; exact q4⟩
        rw [I.inv.sym v hv w hw, ← I.pb w hw v hv]; exact q3
    · rintro (h | ⟨g, hg, ⟨w, hw, q1, q2⟩, q3⟩)
      · have hfn : f < n := by
          rw [bi_and, Bool.and_eq_true] at h
          exact ht v hv f (by omega) h.1
        exact Or.inr ⟨f, hfn, v, hv, (hK f hfn v hv).mpr h, Or.inl ⟨rfl, rfl⟩⟩
      · refine Or.inr ⟨g, hg, w, hw, (hK g hg w hw).mpr q2, Or.inr ⟨hv, ?_, by rw [cm_com I hg hv]; exact q3⟩⟩
        rw [I.pb w hw v hv, I.inv.sym w hw v hv]; exact q1
  · show (p1O MM BB MB AB (T, sl) n).2 = _
    rw [h2, seaG_eq hn]
    have hs : ∀ k, k ≤ 6 → sumH lm lb fm fb n lt' k = nI (fb_sm (fun v => fb_ct (fun j => bi (lt' v) j && ban lm lb fm fb j v) n) k) := by
      intro k
      induction k with
      | zero => exact fun _ => rfl
      | succ k ih => exact fun hk => by rw [sumH_succ, ih (by omega), fb_sm_succ]; exact nI_add _ _
    rw [hs 6 (Nat.le_refl 6), ct_swap]
    congr 2
    refine fb_sm_cong (fun v hv => fb_ct_cong (fun f hf => ?_))
    show (T f v && bnS MM BB MB AB f v 12) = _
    rw [hT v hv f (by omega), bn_ban I hf hv]
/-- some seasons of both -/
theorem psQ_sea (I : GI n fm fb fh fp fv fa lw lm lb lt MM HH PP BB TB MB AB PB) (nx : Nat → Int32) (sl : Int32) : ∀ q, Tol n (seaS lw lm lb fm fb fp n (lt, nx, sl) q).1 ∧ (∀ v, v < 6 → ∀ f, f < 20 → (psQ MM PP BB MB AB PB n (TB, sl) q).1 f v = bi ((seaS lw lm lb fm fb fp n (lt, nx, sl) q).1 v) f) ∧ (psQ MM PP BB MB AB PB n (TB, sl) q).2 = (seaS lw lm lb fm fb fp n (lt, nx, sl) q).2.2
  | 0 => ⟨I.inv.tol, I.tb, rfl⟩
  | q + 1 => by
    obtain ⟨h1, h2, h3⟩ := psQ_sea I nx sl q
    rw [psQ_succ, seaS_succ]
    obtain ⟨g1, g2⟩ := ps_sea I h1 h2 (seaS lw lm lb fm fb fp n (lt, nx, sl) q).2.1 (psQ MM PP BB MB AB PB n (TB, sl) q).2
    exact ⟨tol_sea I.hn I.inv.sym h1 _, g1, by rw [show psT MM PP BB MB AB PB n (psQ MM PP BB MB AB PB n (TB, sl) q) = psT MM PP BB MB AB PB n ((psQ MM PP BB MB AB PB n (TB, sl) q).1, (psQ MM PP BB MB AB PB n (TB, sl) q).2) from rfl, g2, h3]⟩
theorem psQ_liv (I : GI n fm fb fh fp fv fa lw lm lb lt MM HH PP BB TB MB AB PB) (la lk : Nat → Int32) (hu : Int32) (q : Nat) : Tol n (livS lw lm (alS lm lb fm fb n la 6) fm fv n lt lk hu q).1 ∧ (∀ v, v < 6 → ∀ f, f < 20 → (psQ MM PP BB MB AB PB n (TB, hu) q).1 f v = bi ((livS lw lm (alS lm lb fm fb n la 6) fm fv n lt lk hu q).1 v) f) ∧ (psQ MM PP BB MB AB PB n (TB, hu) q).2 = (livS lw lm (alS lm lb fm fb n la 6) fm fv n lt lk hu q).2.2.1 ∧ cntS (livS lw lm (alS lm lb fm fb n la 6) fm fv n lt lk hu q).1 (allS n) 6 = teS (psQ MM PP BB MB AB PB n (TB, hu) q).1 n := by
  obtain ⟨g1, g2, g3, g4⟩ := ps_eq I.inv (lm := lm) (lb := lb) (fm := fm) (fb := fb) la lk (fun _ => 0) hu q
  obtain ⟨h1, h2, h3⟩ := psQ_sea I (fun _ => 0) hu q
  refine ⟨g3, by rw [g1]; exact h2, by rw [g2]; exact h3, ?_⟩
  rw [g4]
  exact te_all I.hn h1 h2
theorem GI.season (I : GI n fm fb fh fp fv fa lw lm lb lt MM HH PP BB TB MB AB PB) (la lk : Nat → Int32) (hu : Int32) (q : Nat) : GI n fm fb fh fp fv fa lw lm lb (livS lw lm (alS lm lb fm fb n la 6) fm fv n lt lk hu q).1 MM HH PP BB (psQ MM PP BB MB AB PB n (TB, hu) q).1 MB AB PB := by
  obtain ⟨h1, h2, -, -⟩ := psQ_liv I la lk hu q
  exact ⟨I.inv.told h1, I.row, I.bb, I.b12, h2, I.mb, I.m10, I.ab, I.a12, I.pb, I.self, I.one, I.par⟩
end PM
