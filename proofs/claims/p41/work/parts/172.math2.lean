/-! a season, told by bits -/
theorem sal_bi (x : Int32) {i : Nat} (hi : i < 32) : bi (sal x) i = true ↔ bi x i = true ∧ ∀ j, j < i → bi x j = false := by
  unfold sal
  rw [bi_and]
  have h : bi (-x) i = (bi x i ^^ decide (∃ j, j < i ∧ bi x j = true)) := by
    show (-x).toBitVec.getLsbD i = _
    rw [Int32.toBitVec_neg, BitVec.getLsbD_neg, decide_eq_true hi, Bool.true_and]
    congr 1
  rw [h]
  by_cases g : ∃ j, j < i ∧ bi x j = true
  · have : ¬ ∀ j, j < i → bi x j = false := fun q => by
      obtain ⟨j, hj, hb⟩ := g
      rw [q j hj] at hb; cases hb
    rw [decide_eq_true g]
    cases bi x i <;> simp [this]
  · have : ∀ j, j < i → bi x j = false := fun j hj => by
      cases q : bi x j
      · rfl
      · exact absurd ⟨j, hj, q⟩ g
    rw [decide_eq_false g]
    cases q : bi x i
    · simp
    · simp; exact this
theorem fst_cases (p : Nat → Bool) : ∀ n, n < 2 ^ 31 → (fstF p n = -1 ∧ ∀ j, j < n → p j = false) ∨ ∃ i, i < n ∧ fstF p n = nI i ∧ p i = true ∧ ∀ j, j < i → p j = false
  | 0, _ => Or.inl ⟨rfl, fun _ h => absurd h (Nat.not_lt_zero _)⟩
  | n + 1, hn => by
    rcases fst_cases p n (by omega) with ⟨h, g⟩ | ⟨i, hi, h, g1, g2⟩
    · show ((if fstF p n = -1 then (if p n then nI n else -1) else fstF p n) = -1 ∧ _) ∨ ∃ i, i < n + 1 ∧ (if fstF p n = -1 then (if p n then nI n else -1) else fstF p n) = nI i ∧ _
      rw [if_pos h]
      cases q : p n
      · refine Or.inl ⟨by rw [if_neg (by decide)], fun j hj => ?_⟩
        rcases Nat.lt_or_ge j n with r | r
        · exact g j r
        · rw [show j = n by omega]; exact q
      · exact Or.inr ⟨n, by omega, by rw [if_pos rfl], q, g⟩
    · refine Or.inr ⟨i, by omega, ?_, g1, g2⟩
      show (if fstF p n = -1 then (if p n then nI n else -1) else fstF p n) = nI i
      rw [if_neg (by rw [h]; exact nI_ne_m1 (by omega)), h]
theorem fst_eq {p : Nat → Bool} {n i : Nat} (hn : n < 2 ^ 31) (hi : i < 2 ^ 31) : fstF p n = nI i ↔ i < n ∧ p i = true ∧ ∀ j, j < i → p j = false := by
  rcases fst_cases p n hn with ⟨h, g⟩ | ⟨k, hk, h, g1, g2⟩
  · rw [h]
    constructor
    · intro e; exact absurd e.symm (nI_ne_m1 hi)
    · rintro ⟨a, b, _⟩; rw [g i a] at b; cases b
  · rw [h, nI_eq (by omega) hi]
    constructor
    · intro e; subst e; exact ⟨hk, g1, g2⟩
    · rintro ⟨_, b, q⟩
      rcases Nat.lt_trichotomy k i with r | r | r
      · rw [q k r] at g1; cases g1
      · exact r
      · rw [g2 i r] at b; cases b
section SEASON
variable {lw lm lb fm fb fp fv : Nat → Int32} {n : Nat}
theorem com_cases {f v : Nat} (hn : n ≤ 20) (hf : f < n) : comS lm lb fm fb fp n f v = -1 ∨ ∃ j, j < n ∧ comS lm lb fm fb fp n f v = nI j ∧ ban lm lb fm fb j v = false := by
  unfold comS
  by_cases h : ban lm lb fm fb f v = true
  · rw [if_pos h]
    by_cases g : hs (lm v) (fm f) = true
    · rw [if_pos g]; exact Or.inl rfl
    · rw [if_neg g]
      rcases fst_cases (varP lm lb fm fb fp f v) n (by omega) with ⟨q, _⟩ | ⟨i, hi, q, r, _⟩
      · exact Or.inl q
      · refine Or.inr ⟨i, hi, q, ?_⟩
        unfold varP at r
        rw [Bool.and_eq_true] at r
        simpa using r.2
  · rw [if_neg h]; exact Or.inr ⟨f, hf, rfl, by simpa using h⟩
theorem com_free {f v : Nat} (h : ban lm lb fm fb f v = false) : comS lm lb fm fb fp n f v = nI f := by
  unfold comS; rw [if_neg (by rw [h]; decide)]
/-- who is told behind a season -/
def NB (lw lm lb fm fb fp : Nat → Int32) (n : Nat) (K : Nat → Int32) (v i : Nat) : Prop := bi (K v) i = true ∨ ∃ f, f < n ∧ (∃ w, w < 6 ∧ bi (lw v) w = true ∧ bi (K w) f = true) ∧ comS lm lb fm fb fp n f v = nI i
/-- the masks of the welcome -/
def LA (lm lb fm fb : Nat → Int32) (n : Nat) (la : Nat → Int32) : Prop := ∀ v, v < 6 → ∀ i, i < 32 → bi (la v) i = (decide (i < n) && !ban lm lb fm fb i v)
theorem arr_bi (lk : Nat → Int32) (v i : Nat) : ∀ k, k ≤ 32 → (bi (arrS lw lk v k) i = true ↔ ∃ w, w < k ∧ bi (lw v) w = true ∧ bi (lk w) i = true)
  | 0, _ => by
    show bi 0 i = true ↔ _
    rw [bi_0]
    exact ⟨fun h => (by cases h), fun ⟨w, h, _⟩ => absurd h (Nat.not_lt_zero _)⟩
  | k + 1, hk => by
    have ih := arr_bi lk v i k (by omega)
    show bi (if hs (lw v) (nI k) = true then arrS lw lk v k ||| lk k else arrS lw lk v k) i = true ↔ _
    rw [hs_bi _ (by omega)]
    constructor
    · intro h
      by_cases g : bi (lw v) k = true
      · rw [if_pos g, bi_or, Bool.or_eq_true] at h
        rcases h with h | h
        · obtain ⟨w, a, b⟩ := ih.mp h; exact ⟨w, by omega, b⟩
        · exact ⟨k, by omega, g, h⟩
      · rw [if_neg g] at h
        obtain ⟨w, a, b⟩ := ih.mp h; exact ⟨w, by omega, b⟩
    · rintro ⟨w, a, b, d⟩
      by_cases g : bi (lw v) k = true
      · rw [if_pos g, bi_or, Bool.or_eq_true]
        rcases Nat.lt_or_ge w k with r | r
        · exact Or.inl (ih.mpr ⟨w, r, b, d⟩)
        · rw [show w = k by omega] at d; exact Or.inr d
      · rw [if_neg g]
        rcases Nat.lt_or_ge w k with r | r
        · exact ih.mpr ⟨w, r, b, d⟩
        · rw [show w = k by omega] at b; exact absurd b g
theorem adm_succ (la : Nat → Int32) (v : Nat) (x : Int32) (f : Nat) : admS lm la fm fv v x (f + 1) = if hs (x &&& (la v ^^^ (-1))) (nI f) then (if hs (lm v) (fm f) then admS lm la fm fv v x f else admS lm la fm fv v x f ||| sal (fv f &&& la v)) else admS lm la fm fv v x f := rfl
theorem adm_bi {la lm' : Nat → Int32} (hn : n ≤ 20) (hv : ∀ f, f < n → ∀ i, i < 32 → bi (fv f) i = (decide (i < n) && decide (fp i = nI f))) (hla : LA lm lb fm fb n la) {v : Nat} (hv6 : v < 6) (hlm : lm' v = lm v) (x : Int32) {i : Nat} (hi : i < 32) : ∀ k, k ≤ n → (bi (admS lm' la fm fv v x k) i = true ↔ (bi x i = true ∧ bi (la v) i = true) ∨ ∃ f, f < k ∧ bi x f = true ∧ ban lm lb fm fb f v = true ∧ comS lm lb fm fb fp n f v = nI i)
  | 0, _ => by
    show bi (x &&& la v) i = true ↔ _
    rw [bi_and, Bool.and_eq_true]
    exact ⟨Or.inl, fun h => h.elim id (fun ⟨f, h, _⟩ => absurd h (Nat.not_lt_zero _))⟩
  | k + 1, hk => by
    have ih := adm_bi hn hv hla hv6 hlm x hi k (by omega)
    have hk32 : k < 32 := by omega
    have hs1 : hs (x &&& (la v ^^^ (-1))) (nI k) = (bi x k && ban lm lb fm fb k v) := by
      rw [hs_bi _ hk32, bi_and, bi_not _ hk32, hla v hv6 k hk32, decide_eq_true (show k < n by omega), Bool.true_and, Bool.not_not]
    rw [adm_succ, hs1, hlm]
    have step : ∀ P : Prop, (∃ f, f < k + 1 ∧ bi x f = true ∧ ban lm lb fm fb f v = true ∧ comS lm lb fm fb fp n f v = nI i) ↔ (∃ f, f < k ∧ bi x f = true ∧ ban lm lb fm fb f v = true ∧ comS lm lb fm fb fp n f v = nI i) ∨ (bi x k = true ∧ ban lm lb fm fb k v = true ∧ comS lm lb fm fb fp n k v = nI i) := fun _ => by
      constructor
      · rintro ⟨f, a, b⟩
        rcases Nat.lt_or_ge f k with r | r
        · exact Or.inl ⟨f, r, b⟩
        · rw [show f = k by omega] at b; exact Or.inr b
      · rintro (⟨f, a, b⟩ | b)
        · exact ⟨f, by omega, b⟩
        · exact ⟨k, by omega, b⟩
    rw [step True]
    by_cases g : (bi x k && ban lm lb fm fb k v) = true
    · rw [if_pos g]
      rw [Bool.and_eq_true] at g
      by_cases q : hs (lm v) (fm k) = true
      · rw [if_pos q, ih]
        have : ¬ comS lm lb fm fb fp n k v = nI i := by
          unfold comS
          rw [if_pos g.2, if_pos q]
          exact fun e => nI_ne_m1 (show i < 2 ^ 31 by omega) e.symm
        constructor
        · exact fun h => h.imp id Or.inl
        · rintro (h | h | h)
          · exact Or.inl h
          · exact Or.inr h
          · exact absurd h.2.2 this
      · rw [if_neg q, bi_or, Bool.or_eq_true, ih, sal_bi _ hi]
        have e : comS lm lb fm fb fp n k v = fstF (varP lm lb fm fb fp k v) n := by
          unfold comS
          rw [if_pos g.2, if_neg q]
        have hx : ∀ j, j < 32 → bi (fv k &&& la v) j = (decide (j < n) && varP lm lb fm fb fp k v j) := fun j hj => by
          rw [bi_and, hv k (by omega) j hj, hla v hv6 j hj]
          unfold varP
          cases decide (j < n) <;> simp
        rw [e, fst_eq (by omega) (by omega)]
        have e2 : (bi (fv k &&& la v) i = true ∧ ∀ j, j < i → bi (fv k &&& la v) j = false) ↔ (i < n ∧ varP lm lb fm fb fp k v i = true ∧ ∀ j, j < i → varP lm lb fm fb fp k v j = false) := by
          rw [hx i hi, Bool.and_eq_true, decide_eq_true_eq]
          constructor
          · rintro ⟨⟨a, b⟩, d⟩
            refine ⟨a, b, fun j hj => ?_⟩
            have := d j hj
            rw [hx j (by omega), decide_eq_true (show j < n by omega), Bool.true_and] at this
            exact this
          · rintro ⟨a, b, d⟩
            exact ⟨⟨a, b⟩, fun j hj => by rw [hx j (by omega), d j hj, Bool.and_false]⟩
        rw [e2]
        constructor
        · rintro ((h | h) | h)
          · exact Or.inl h
          · exact Or.inr (Or.inl h)
          · exact Or.inr (Or.inr ⟨g.1, g.2, h⟩)
        · rintro (h | h | h)
          · exact Or.inl (Or.inl h)
          · exact Or.inl (Or.inr h)
          · exact Or.inr h.2.2
    · rw [if_neg g, ih]
      constructor
      · exact fun h => h.imp id Or.inl
      · rintro (h | h | h)
        · exact Or.inl h
        · exact Or.inr h
        · exact absurd (Bool.and_eq_true_iff.mpr ⟨h.1, h.2.1⟩) g
theorem then_bi {la lm' lw' lk : Nat → Int32} (hn : n ≤ 20) (hv : ∀ f, f < n → ∀ i, i < 32 → bi (fv f) i = (decide (i < n) && decide (fp i = nI f))) (hla : LA lm lb fm fb n la) {v : Nat} (hv6 : v < 6) (hlm : lm' v = lm v) (hlw : lw' v = lw v) (hk : ∀ v, v < 6 → ∀ i, i < 32 → bi (lk v) i = true → i < n) {i : Nat} (hi : i < 32) : bi (thenS lw' lm' la lk fm fv n v) i = true ↔ NB lw lm lb fm fb fp n lk v i := by
  unfold thenS NB
  rw [bi_or, Bool.or_eq_true, adm_bi hn hv hla hv6 hlm _ hi n (Nat.le_refl _)]
  have ha : ∀ f, (bi (arrS lw' lk v 6) f = true ↔ ∃ w, w < 6 ∧ bi (lw v) w = true ∧ bi (lk w) f = true) := fun f => by rw [arr_bi lk v f 6 (by omega), hlw]
  refine or_congr Iff.rfl ?_
  constructor
  · rintro (⟨h1, h2⟩ | ⟨f, hf, h1, h2, h3⟩)
    · rw [hla v hv6 i hi, Bool.and_eq_true, decide_eq_true_eq] at h2
      exact ⟨i, h2.1, (ha i).mp h1, com_free (by simpa using h2.2)⟩
    · exact ⟨f, hf, (ha f).mp h1, h3⟩
  · rintro ⟨f, hf, h1, h2⟩
    cases g : ban lm lb fm fb f v
    · rw [com_free g, nI_eq (by omega) (by omega)] at h2
      subst h2
      refine Or.inl ⟨(ha f).mpr h1, ?_⟩
      rw [hla v hv6 f hi, g, decide_eq_true hf]; rfl
    · exact Or.inr ⟨f, hf, (ha f).mpr h1, g, h2⟩
end SEASON

/-! the reference's season, by bits -/
section SEASON2
variable {lw lm lb fm fb fp fv : Nat → Int32} {n : Nat}
theorem s1I_bi (hn : n ≤ 20) (v : Nat) (x : (Nat → Int32) × Int32) : ∀ k, k ≤ n → (∀ i, i < 32 → bi ((s1I lm lb fm fb v x k).1 v) i = (bi (x.1 v) i && !(decide (i < k) && ban lm lb fm fb i v))) ∧ (∀ z, z ≠ v → (s1I lm lb fm fb v x k).1 z = x.1 z) ∧ (s1I lm lb fm fb v x k).2 = x.2 + nI (fb_ct (fun j => bi (x.1 v) j && ban lm lb fm fb j v) k)
  | 0, _ => ⟨fun i _ => by rw [s1I_0]; simp, fun _ _ => rfl, by rw [s1I_0, show nI (fb_ct (fun j => bi (x.1 v) j && ban lm lb fm fb j v) 0) = 0 from rfl, Int32.add_zero]⟩
  | k + 1, hk => by
    obtain ⟨h1, h2, h3⟩ := s1I_bi hn v x k (by omega)
    have hk32 : k < 32 := by omega
    have hb : hs ((s1I lm lb fm fb v x k).1 v) (nI k) = bi (x.1 v) k := by
      rw [hs_bi _ hk32, h1 k hk32, decide_eq_false (Nat.lt_irrefl k)]; simp
    have e : ∀ i, i ≠ k → decide (i < k + 1) = decide (i < k) := fun i hi => decide_eq_decide.mpr (by omega)
    rw [s1I_succ, hb]
    by_cases g : bi (x.1 v) k = true
    · rw [if_pos g]
      by_cases q : ban lm lb fm fb k v = true
      · rw [if_pos q]
        refine ⟨fun i hi => ?_, fun z hz => ?_, ?_⟩
        · show bi (upd _ v _ v) i = _
          rw [upd_at, bi_and, bi_not _ hi, bi_bit hk32 hi, h1 i hi]
          by_cases r : i = k
          · subst r; simp [q]
          · rw [e i r]; simp [r]
        · show upd _ v _ z = _
          rw [upd_ne _ _ hz]; exact h2 z hz
        · show (s1I lm lb fm fb v x k).2 + 1 = _
          rw [h3, fb_ct_succ, Int32.add_assoc, nI_1]; simp [g, q]
      · rw [if_neg q]
        refine ⟨fun i hi => ?_, h2, ?_⟩
        · rw [h1 i hi]
          by_cases r : i = k
          · subst r; simp [q]
          · rw [e i r]
        · rw [h3, fb_ct_succ]; simp [q]
    · rw [if_neg g]
      refine ⟨fun i hi => ?_, h2, ?_⟩
      · rw [h1 i hi]
        by_cases r : i = k
        · subst r; simp [g]
        · rw [e i r]
      · rw [h3, fb_ct_succ]; simp [g]
def sumH (lm lb fm fb : Nat → Int32) (n : Nat) (lt : Nat → Int32) : Nat → Int32 := z_fold (fun v a => a + nI (fb_ct (fun j => bi (lt v) j && ban lm lb fm fb j v) n)) 0
theorem sumH_succ (lt : Nat → Int32) (v : Nat) : sumH lm lb fm fb n lt (v + 1) = sumH lm lb fm fb n lt v + nI (fb_ct (fun j => bi (lt v) j && ban lm lb fm fb j v) n) := rfl
theorem s1O_bi (hn : n ≤ 20) (lt nx : Nat → Int32) : ∀ k, (∀ z, z < k → ∀ i, i < 32 → bi ((s1O lm lb fm fb n lt nx k).1.1 z) i = (bi (lt z) i && !(decide (i < n) && ban lm lb fm fb i z))) ∧ (∀ z, k ≤ z → (s1O lm lb fm fb n lt nx k).1.1 z = lt z) ∧ (∀ z, z < k → (s1O lm lb fm fb n lt nx k).2 z = (s1O lm lb fm fb n lt nx k).1.1 z) ∧ (s1O lm lb fm fb n lt nx k).1.2 = sumH lm lb fm fb n lt k
  | 0 => ⟨fun _ h => absurd h (Nat.not_lt_zero _), fun _ _ => rfl, fun _ h => absurd h (Nat.not_lt_zero _), rfl⟩
  | k + 1 => by
    obtain ⟨h1, h2, h3, h4⟩ := s1O_bi hn lt nx k
    obtain ⟨g1, g2, g3⟩ := s1I_bi (lm := lm) (lb := lb) (fm := fm) (fb := fb) hn k (s1O lm lb fm fb n lt nx k).1 n (Nat.le_refl _)
    rw [s1O_succ]
    refine ⟨fun z hz i hi => ?_, fun z hz => ?_, fun z hz => ?_, ?_⟩
    · show bi ((s1I lm lb fm fb k (s1O lm lb fm fb n lt nx k).1 n).1 z) i = _
      by_cases r : z = k
      · subst r; rw [g1 i hi, h2 z (Nat.le_refl _)]
      · rw [g2 z r]; exact h1 z (by omega) i hi
    · show (s1I lm lb fm fb k (s1O lm lb fm fb n lt nx k).1 n).1 z = _
      rw [g2 z (by omega)]; exact h2 z (by omega)
    · show upd (s1O lm lb fm fb n lt nx k).2 k _ z = (s1I lm lb fm fb k (s1O lm lb fm fb n lt nx k).1 n).1 z
      by_cases r : z = k
      · subst r; rw [upd_at]
      · rw [upd_ne _ _ r, g2 z r]; exact h3 z (by omega)
    · show (s1I lm lb fm fb k (s1O lm lb fm fb n lt nx k).1 n).2 = _
      rw [g3, h4, sumH_succ, h2 k (Nat.le_refl _)]
theorem s2F_bi (hn : n ≤ 20) (lt : Nat → Int32) (v to : Nat) (nx : Nat → Int32) : ∀ k, k ≤ n → (∀ i, i < 32 → (bi (s2F lm lb fm fb fp n lt v to nx k to) i = true ↔ bi (nx to) i = true ∨ ∃ f, f < k ∧ bi (lt v) f = true ∧ comS lm lb fm fb fp n f to = nI i)) ∧ (∀ z, z ≠ to → s2F lm lb fm fb fp n lt v to nx k z = nx z)
  | 0, _ => ⟨fun i _ => by rw [s2F_0]; exact ⟨Or.inl, fun h => h.elim id (fun ⟨f, h, _⟩ => absurd h (Nat.not_lt_zero _))⟩, fun _ _ => rfl⟩
  | k + 1, hk => by
    obtain ⟨h1, h2⟩ := s2F_bi hn lt v to nx k (by omega)
    have step : ∀ i, (∃ f, f < k + 1 ∧ bi (lt v) f = true ∧ comS lm lb fm fb fp n f to = nI i) ↔ (∃ f, f < k ∧ bi (lt v) f = true ∧ comS lm lb fm fb fp n f to = nI i) ∨ (bi (lt v) k = true ∧ comS lm lb fm fb fp n k to = nI i) := fun i => by
      constructor
      · rintro ⟨f, a, b⟩
        rcases Nat.lt_or_ge f k with r | r
        · exact Or.inl ⟨f, r, b⟩
        · rw [show f = k by omega] at b; exact Or.inr b
      · rintro (⟨f, a, b⟩ | b)
        · exact ⟨f, by omega, b⟩
        · exact ⟨k, by omega, b⟩
    rw [s2F_succ, hs_bi _ (show k < 32 by omega)]
    by_cases g : bi (lt v) k = true
    · rw [if_pos g]
      rcases com_cases (lm := lm) (lb := lb) (fm := fm) (fb := fb) (fp := fp) (f := k) (v := to) hn (by omega) with q | ⟨j, hj, q, _⟩
      · rw [if_pos q]
        refine ⟨fun i hi => ?_, h2⟩
        rw [h1 i hi, step i, q]
        constructor
        · exact fun h => h.imp id Or.inl
        · rintro (h | h | h)
          · exact Or.inl h
          · exact Or.inr h
          · exact absurd h.2.symm (nI_ne_m1 (by omega))
      · rw [if_neg (by rw [q]; exact nI_ne_m1 (by omega)), q]
        refine ⟨fun i hi => ?_, fun z hz => by rw [upd_ne _ _ hz]; exact h2 z hz⟩
        rw [upd_at, bi_or, bi_bit (by omega) hi, Bool.or_eq_true, h1 i hi, step i, q, nI_eq (by omega) (by omega), decide_eq_true_eq]
        constructor
        · rintro ((h | h) | h)
          · exact Or.inl h
          · exact Or.inr (Or.inl h)
          · exact Or.inr (Or.inr ⟨g, h.symm⟩)
        · rintro (h | h | h)
          · exact Or.inl (Or.inl h)
          · exact Or.inl (Or.inr h)
          · exact Or.inr h.2.symm
    · rw [if_neg g]
      refine ⟨fun i hi => ?_, h2⟩
      rw [h1 i hi, step i]
      constructor
      · exact fun h => h.imp id Or.inl
      · rintro (h | h | h)
        · exact Or.inl h
        · exact Or.inr h
        · exact absurd h.1 g
theorem s2T_bi (hn : n ≤ 20) (lt : Nat → Int32) (v : Nat) (nx : Nat → Int32) : ∀ k, k ≤ 6 → ∀ z, ∀ i, i < 32 → (bi (s2T lw lm lb fm fb fp n lt v nx k z) i = true ↔ bi (nx z) i = true ∨ (z < k ∧ bi (lw v) z = true ∧ ∃ f, f < n ∧ bi (lt v) f = true ∧ comS lm lb fm fb fp n f z = nI i))
  | 0, _ => fun z i _ => by rw [s2T_0]; exact ⟨Or.inl, fun h => h.elim id (fun h => absurd h.1 (Nat.not_lt_zero _))⟩
  | k + 1, hk => fun z i hi => by
    have ih := s2T_bi hn lt v nx k (by omega) z i hi
    obtain ⟨h1, h2⟩ := s2F_bi (lm := lm) (lb := lb) (fm := fm) (fb := fb) (fp := fp) hn lt v k (s2T lw lm lb fm fb fp n lt v nx k) n (Nat.le_refl _)
    rw [s2T_succ, hs_bi _ (show k < 32 by omega)]
    by_cases g : bi (lw v) k = true
    · rw [if_pos g]
      by_cases r : z = k
      · subst r
        rw [h1 i hi, ih]
        constructor
        · rintro ((h | h) | h)
          · exact Or.inl h
          · exact absurd h.1 (Nat.lt_irrefl _)
          · exact Or.inr ⟨by omega, g, h⟩
        · rintro (h | h)
          · exact Or.inl (Or.inl h)
          · exact Or.inr h.2.2
      · rw [h2 z r, ih]
        constructor
        · exact fun h => h.imp id (fun h => ⟨by omega, h.2⟩)
        · exact fun h => h.imp id (fun h => ⟨by omega, h.2⟩)
    · rw [if_neg g, ih]
      constructor
      · exact fun h => h.imp id (fun h => ⟨by omega, h.2⟩)
      · rintro (h | h)
        · exact Or.inl h
        · by_cases r : z = k
          · subst r; exact absurd h.2.1 g
          · exact Or.inr ⟨by omega, h.2⟩
theorem s2V_bi (hn : n ≤ 20) (lt nx : Nat → Int32) : ∀ k, ∀ z, ∀ i, i < 32 → (bi (s2V lw lm lb fm fb fp n lt nx k z) i = true ↔ bi (nx z) i = true ∨ ∃ v, v < k ∧ z < 6 ∧ bi (lw v) z = true ∧ ∃ f, f < n ∧ bi (lt v) f = true ∧ comS lm lb fm fb fp n f z = nI i)
  | 0 => fun z i _ => by rw [s2V_0]; exact ⟨Or.inl, fun h => h.elim id (fun ⟨v, h, _⟩ => absurd h (Nat.not_lt_zero _))⟩
  | k + 1 => fun z i hi => by
    rw [s2V_succ, s2T_bi hn lt k _ 6 (Nat.le_refl _) z i hi, s2V_bi hn lt nx k z i hi]
    constructor
    · rintro ((h | ⟨v, a, b⟩) | h)
      · exact Or.inl h
      · exact Or.inr ⟨v, by omega, b⟩
      · exact Or.inr ⟨k, by omega, h⟩
    · rintro (h | ⟨v, a, b⟩)
      · exact Or.inl (Or.inl h)
      · rcases Nat.lt_or_ge v k with r | r
        · exact Or.inl (Or.inr ⟨v, r, b⟩)
        · rw [show v = k by omega] at b; exact Or.inr b
/-- what stays told behind the first step -/
def KT (lm lb fm fb : Nat → Int32) (n : Nat) (lt K : Nat → Int32) : Prop := ∀ v, v < 6 → ∀ i, i < 32 → bi (K v) i = (bi (lt v) i && !(decide (i < n) && ban lm lb fm fb i v))
theorem NB_cong {K K' : Nat → Int32} (h : ∀ v, v < 6 → K' v = K v) {v i : Nat} (hv : v < 6) : NB lw lm lb fm fb fp n K' v i ↔ NB lw lm lb fm fb fp n K v i := by
  unfold NB
  rw [h v hv]
  refine or_congr Iff.rfl ⟨?_, ?_⟩
  · rintro ⟨f, hf, ⟨w, hw, a, b⟩, d⟩; exact ⟨f, hf, ⟨w, hw, a, by rw [← h w hw]; exact b⟩, d⟩
  · rintro ⟨f, hf, ⟨w, hw, a, b⟩, d⟩; exact ⟨f, hf, ⟨w, hw, a, by rw [h w hw]; exact b⟩, d⟩
theorem seaN_bi (hn : n ≤ 20) (hsym : ∀ a, a < 6 → ∀ b, b < 6 → bi (lw a) b = bi (lw b) a) (lt nx : Nat → Int32) {K : Nat → Int32} (hK : KT lm lb fm fb n lt K) {v i : Nat} (hv : v < 6) (hi : i < 32) : bi (seaN lw lm lb fm fb fp n lt nx v) i = true ↔ NB lw lm lb fm fb fp n K v i := by
  obtain ⟨h1, h2, h3, _⟩ := s1O_bi (lm := lm) (lb := lb) (fm := fm) (fb := fb) hn lt nx 6
  have e : ∀ z, z < 6 → (s1O lm lb fm fb n lt nx 6).1.1 z = K z := fun z hz => bi_ext fun j hj => by rw [h1 z hz j hj, hK z hz j hj]
  unfold seaN NB
  rw [s2V_bi hn _ _ 6 v i hi, h3 v hv, e v hv]
  refine or_congr Iff.rfl ?_
  constructor
  · rintro ⟨w, hw, _, a, f, hf, b, d⟩
    exact ⟨f, hf, ⟨w, hw, by rw [hsym v hv w hw]; exact a, by rw [← e w hw]; exact b⟩, d⟩
  · rintro ⟨f, hf, ⟨w, hw, a, b⟩, d⟩
    exact ⟨w, hw, hv, by rw [hsym w hw v hv]; exact a, f, hf, by rw [e w hw]; exact b, d⟩
theorem seaL_in (lt nx : Nat → Int32) {v : Nat} (hv : v < 6) : seaL lw lm lb fm fb fp n lt nx v = seaN lw lm lb fm fb fp n lt nx v := by
  unfold seaL va_cpy
  rw [if_pos ⟨Nat.zero_le _, by omega⟩]; congr 1; omega
theorem seaL_out (hn : n ≤ 20) (lt nx : Nat → Int32) {v : Nat} (hv : 6 ≤ v) : seaL lw lm lb fm fb fp n lt nx v = lt v := by
  unfold seaL va_cpy
  rw [if_neg (fun h => by omega)]
  exact (s1O_bi hn lt nx 6).2.1 v hv
end SEASON2
