/-! the law's season: what is told, and why -/
def wzI (lt : Nat → Int32) (f : Nat) (a : Nat → Nat → Bool) : Nat → Nat → Nat → Bool := z_fold (fun v T => up2 T f v (hs (lt v) (nI f))) a
theorem wzI_0 (lt : Nat → Int32) (f : Nat) (a : Nat → Nat → Bool) : wzI lt f a 0 = a := rfl
theorem wzI_succ (lt : Nat → Int32) (f : Nat) (a : Nat → Nat → Bool) (v : Nat) : wzI lt f a (v + 1) = up2 (wzI lt f a v) f v (hs (lt v) (nI f)) := rfl
def wzO (lt : Nat → Int32) : Nat → Nat → Nat → Bool := z_fold (fun f T => wzI lt f T 6) (fun _ _ => false)
theorem wzO_0 (lt : Nat → Int32) : wzO lt 0 = fun _ _ => false := rfl
theorem wzO_succ (lt : Nat → Int32) (f : Nat) : wzO lt (f + 1) = wzI lt f (wzO lt f) 6 := rfl
theorem up2_at (T : Nat → Nat → Bool) (f v : Nat) (b : Bool) : up2 T f v b f v = b := by simp [up2]
theorem up2_nf (T : Nat → Nat → Bool) {f v g j : Nat} (b : Bool) (h : ¬ (g = f ∧ j = v)) : up2 T f v b g j = T g j := by
  unfold up2
  by_cases e : g = f
  · rw [if_pos e, if_neg (fun q => h ⟨e, q⟩)]
  · rw [if_neg e]
theorem wzI_at (lt : Nat → Int32) (f : Nat) (a : Nat → Nat → Bool) : ∀ k g j, wzI lt f a k g j = if g = f ∧ j < k then hs (lt j) (nI f) else a g j
  | 0, g, j => by rw [wzI_0, if_neg (by omega)]
  | k + 1, g, j => by
    rw [wzI_succ]
    by_cases e : g = f ∧ j = k
    · obtain ⟨rfl, rfl⟩ := e
      rw [up2_at, if_pos ⟨rfl, Nat.lt_succ_self _⟩]
    · rw [up2_nf _ _ e, wzI_at lt f a k g j]
      by_cases h : g = f ∧ j < k
      · rw [if_pos h, if_pos ⟨h.1, by omega⟩]
      · rw [if_neg h, if_neg (by omega)]
theorem wzO_at (lt : Nat → Int32) : ∀ k g j, g < k → j < 6 → wzO lt k g j = hs (lt j) (nI g)
  | 0, _, _, h, _ => absurd h (Nat.not_lt_zero _)
  | k + 1, g, j, h, hj => by
    rw [wzO_succ, wzI_at]
    by_cases e : g = k
    · rw [if_pos ⟨e, hj⟩, e]
    · rw [if_neg (fun q => e q.1)]
      exact wzO_at lt k g j (by omega) hj
theorem gn_ct (W bn : Nat → Nat → Bool) (f : Nat) (a : Int32) : ∀ k, gnI W bn f a k = a + nI (fb_ct (fun v => W f v && bn f v) k)
  | 0 => by rw [gnI_0]; show a = a + 0; rw [Int32.add_zero]
  | k + 1 => by rw [gnI_succ, gn_ct W bn f a k, fb_ct_succ, ← nI_step, Int32.add_assoc]; rfl
theorem gnO_ct (W bn : Nat → Nat → Bool) : ∀ k, gnO W bn k = nI (fb_sm (fun f => fb_ct (fun v => W f v && bn f v) 6) k)
  | 0 => rfl
  | k + 1 => by rw [gnO_succ, gn_ct, gnO_ct W bn k, fb_sm_succ]; exact nI_add _ _
theorem nI_sub1 (a : Nat) : nI (a + 1) - 1 = nI a := by rw [← nI_1, Int32.add_sub_cancel]
section PM4
variable {n : Nat} {fm fb fh fp fv fa lw lm lb lt : Nat → Int32} {MM HH : Nat → Nat} {PP : Nat → Int32} {BB TB MB AB PB : Nat → Nat → Bool}
theorem se_at (I : GI n fm fb fh fp fv fa lw lm lb lt MM HH PP BB TB MB AB PB) (hu : Int32) {i : Nat} (hi : i < 32) (j : Nat) : (psQ MM PP BB MB AB PB n (TB, hu) 1).1 i j = true ↔ ∃ f, f < n ∧ ∃ v, v < 6 ∧ TB f v = true ∧ bnS MM BB MB AB f v 12 = false ∧ ((i = f ∧ j = v) ∨ (j < 6 ∧ PB v j = true ∧ cmS MM PP BB MB AB n f j = nI i)) := by
  have h1 : (p1O MM BB MB AB (TB, hu) n).1 = _ := (p1O_at (MM := MM) (BB := BB) (MB := MB) (AB := AB) (TB, hu) n).1
  rw [psQ_succ, psQ_0]
  show p2F MM PP BB (p1O MM BB MB AB (TB, hu) n).1 MB AB PB n (fun _ _ => false) n i j = true ↔ _
  rw [p2F_at I.hn _ _ n (Nat.le_refl n) i hi j]
  constructor
  · rintro (h | ⟨f, hf, v, hv, ht, q⟩)
    · cases h
    · rw [h1] at ht
      simp only [if_pos (show f < n ∧ v < 6 from ⟨hf, hv⟩), Bool.and_eq_true, Bool.not_eq_true'] at ht
      exact ⟨f, hf, v, hv, ht.1, ht.2, q⟩
  · rintro ⟨f, hf, v, hv, a, b, q⟩
    refine Or.inr ⟨f, hf, v, hv, ?_, q⟩
    rw [h1]
    simp only [if_pos (show f < n ∧ v < 6 from ⟨hf, hv⟩), Bool.and_eq_true, Bool.not_eq_true']
    exact ⟨a, b⟩
theorem se_sum (hu : Int32) : (psQ MM PP BB MB AB PB n (TB, hu) 1).2 = hu + nI (fb_sm (fun g => fb_ct (fun j => TB g j && bnS MM BB MB AB g j 12) 6) n) := (p1O_at (MM := MM) (BB := BB) (MB := MB) (AB := AB) (TB, hu) n).2
theorem cmS_fr (I : GI n fm fb fh fp fv fa lw lm lb lt MM HH PP BB TB MB AB PB) {f i j : Nat} (hf : f < n) (hi : i < 32) (h : cmS MM PP BB MB AB n f j = nI i) : i < n ∧ bnS MM BB MB AB i j 12 = false ∧ (i = f ∨ (PP i = nI f ∧ bnS MM BB MB AB f j 12 = true)) := by
  have hn := I.hn
  unfold cmS at h
  by_cases g : bnS MM BB MB AB f j 12 = true
  · rw [if_pos g] at h
    by_cases g2 : MB j (MM f) = true
    · rw [if_pos g2] at h; exact absurd h.symm (nI_ne_m1 (by omega))
    · rw [if_neg g2] at h
      rcases cmD_at (chP MM PP BB MB AB f j) (n := n) n (Nat.le_refl n) with ⟨h1, _⟩ | ⟨k, _, hk, h1, h2, _⟩
      · rw [h1] at h; exact absurd h.symm (nI_ne_m1 (by omega))
      · rw [h1] at h
        have e : k = i := (nI_eq (by omega) (by omega)).mp h
        subst e
        unfold chP at h2
        rw [Bool.and_eq_true, decide_eq_true_iff, Bool.not_eq_true'] at h2
        exact ⟨hk, h2.2, Or.inr ⟨h2.1, g⟩⟩
  · rw [if_neg g] at h
    have e : f = i := (nI_eq (by omega) (by omega)).mp h
    subst e
    exact ⟨hf, by simpa using g, Or.inl rfl⟩
theorem law_F (I : GI n fm fb fh fp fv fa lw lm lb lt MM HH PP BB TB MB AB PB) (la lk : Nat → Int32) (hu : Int32) {W : Nat → Nat → Bool} (hW : ∀ f, f < n → ∀ v, v < 6 → W f v = TB f v) {lt' : Nat → Int32} {hu' : Int32} (elt : lt' = (livS lw lm (alS lm lb fm fb n la 6) fm fv n lt lk hu 1).1) (ehu : hu' = (livS lw lm (alS lm lb fm fb n la 6) fm fv n lt lk hu 1).2.2.1) :
    (∀ f, f < n → ∀ v, v < 6 → hs (lt' v) (nI f) = true → ban lm lb fm fb f v = false) ∧
    (∀ f, f < n → ∀ v, v < 6 → W f v = true → ban lm lb fm fb f v = false → hs (lt' v) (nI f) = true) ∧
    (∀ f, f < n → ∀ v, v < 6 → hs (lt' v) (nI f) = true → W f v = false → ∃ w, w < 6 ∧ hs (lw w) (nI v) = true ∧ ((W f w = true ∧ ban lm lb fm fb f w = false) ∨ ∃ j, j < n ∧ fp f = nI j ∧ W j w = true ∧ ban lm lb fm fb j w = false ∧ ban lm lb fm fb j v = true)) ∧
    hu' = hu + gnO W (fun f v => ban lm lb fm fb f v) n := by
  have hn := I.hn
  obtain ⟨_, hT, h2, _⟩ := psQ_liv I la lk hu 1
  have bit : ∀ f, f < n → ∀ v, v < 6 → hs (lt' v) (nI f) = (psQ MM PP BB MB AB PB n (TB, hu) 1).1 f v := fun f hf v hv => by
    rw [hs_bi _ (by omega), elt, hT v hv f (by omega)]
  refine ⟨fun f hf v hv h => ?_, fun f hf v hv h b => ?_, fun f hf v hv h w0 => ?_, ?_⟩
  · rw [bit f hf v hv, se_at I hu (by omega)] at h
    obtain ⟨g, hg, w, hw, _, a2, ⟨e1, e2⟩ | ⟨_, _, a3⟩⟩ := h
    · subst e1 e2; rw [← bn_ban I hf hv]; exact a2
    · rw [← bn_ban I hf hv]; exact (cmS_fr I hg (by omega) a3).2.1
  · rw [bit f hf v hv, se_at I hu (by omega)]
    exact ⟨f, hf, v, hv, by rw [← hW f hf v hv]; exact h, by rw [bn_ban I hf hv]; exact b, Or.inl ⟨rfl, rfl⟩⟩
  · rw [bit f hf v hv, se_at I hu (by omega)] at h
    obtain ⟨g, hg, w, hw, a1, a2, ⟨e1, e2⟩ | ⟨_, a4, a3⟩⟩ := h
    · subst e1 e2; rw [hW _ hf _ hv, a1] at w0; cases w0
    · refine ⟨w, hw, by rw [hs_bi _ (by omega), ← I.pb w hw v hv]; exact a4, ?_⟩
      rcases (cmS_fr I hg (by omega) a3).2.2 with e | ⟨e1, e2⟩
      · subst e; exact Or.inl ⟨by rw [hW _ hf _ hw]; exact a1, by rw [← bn_ban I hf hw]; exact a2⟩
      · exact Or.inr ⟨g, hg, by rw [← (I.row f hf).2.2.2]; exact e1, by rw [hW _ hg _ hw]; exact a1, by rw [← bn_ban I hg hw]; exact a2, by rw [← bn_ban I hg hv]; exact e2⟩
  · rw [ehu, ← h2, se_sum, gnO_ct]
    congr 2
    exact fb_sm_cong (fun f hf => fb_ct_cong (fun v hv => by rw [hW f hf v hv, bn_ban I hf hv]))
theorem told_le (I : GI n fm fb fh fp fv fa lw lm lb lt MM HH PP BB TB MB AB PB) {v : Nat} (hv : v < 6) (F1 : ∀ f, f < n → hs (lt v) (nI f) = true → ban lm lb fm fb f v = false) : ¬ pc (welS lm lb fm fb v n) < pc (lt v) := by
  have hn := I.hn
  rw [pcb (show n ≤ 32 by omega) (I.inv.tol v hv), wel_mk, mk_pc _ (by omega)]
  have h1 := fb_ct_le (bi (lt v)) n
  have h2 := fb_ct_le (fun f => !ban lm lb fm fb f v) n
  have h3 : fb_ct (bi (lt v)) n ≤ fb_ct (fun f => !ban lm lb fm fb f v) n := fb_ct_sub (fun f hf h => by rw [F1 f hf (by rw [hs_bi _ (by omega)]; exact h)]; rfl)
  exact fun h => absurd ((nI_ltI (by omega) (by omega)).mp h) (by omega)
theorem wel_le (I : GI n fm fb fh fp fv fa lw lm lb lt MM HH PP BB TB MB AB PB) (v : Nat) : ¬ nI n < pc (welS lm lb fm fb v n) := by
  have hn := I.hn
  rw [wel_mk, mk_pc _ (by omega)]
  have h2 := fb_ct_le (fun f => !ban lm lb fm fb f v) n
  exact fun h => absurd ((nI_ltI (by omega) (by omega)).mp h) (by omega)
theorem bea_pc (I : GI n fm fb fh fp fv fa lw lm lb lt MM HH PP BB TB MB AB PB) {f : Nat} (hf : f < n) : pc (fb f) = nI (fb_ct (bi (fb f)) 12) := pcb (by omega) (I.b12 f hf)
theorem bea_one (I : GI n fm fb fh fp fv fa lw lm lb lt MM HH PP BB TB MB AB PB) {f : Nat} (hf : f < n) : ¬ pc (fb f) < 1 := by
  rw [bea_pc I hf]
  have h1 := I.one f hf
  have h2 := fb_ct_le (bi (fb f)) 12
  exact fun h => absurd ((nI_ltI (b := 1) (by omega) (by omega)).mp h) (by omega)
theorem bit_ne {x y : Int32} {i : Nat} (h : bi x i = true) (h2 : bi y i = false) : x ≠ y := fun e => by rw [e, h2] at h; cases h
theorem kin_one (I : GI n fm fb fh fp fv fa lw lm lb lt MM HH PP BB TB MB AB PB) {f j : Nat} (hf : f < n) (hj : j < f) (h : fp f = nI j) : kinS (fa f) (fa j) = 1 := by
  have hn := I.hn
  have hp : Par (j + 1) fp := fun k hk => I.inv.par k (by omega)
  have e1 : fa f = ((1 : Int32) <<< (nI f &&& 31)) ||| fa j := by
    rw [I.inv.anc f hf, I.inv.anc j (by omega), an_up (by omega) h 20]
    show _ ||| (anS fp j 20).1 = _
    rw [← an_end (n := j + 1) (by omega) hp (Nat.lt_succ_self j) (q := 20) (by omega), ← an_end (n := j + 1) (by omega) hp (Nat.lt_succ_self j) (q := 21) (by omega)]
  have hb : ∀ i, i < 32 → bi (fa j) i = true → i < j + 1 := fun i hi g => by
    rw [I.inv.anc j (by omega)] at g
    exact an_bits (n := j + 1) (by omega) hp (Nat.lt_succ_self j) hi 21 g
  have hjj : bi (fa j) j = true := by
    rw [I.inv.anc j (by omega)]
    rcases I.inv.par j (by omega) with e | ⟨i, hi, e⟩
    · rw [an_root (by omega) e 20, bi_bit (by omega) (by omega)]; simp
    · rw [an_up (by omega) e 20]
      show bi (_ ||| _) j = true
      rw [bi_or, bi_bit (by omega) (by omega)]; simp
  have hnf : bi (fa j) f = false := by
    cases g : bi (fa j) f
    · rfl
    · exact absurd (hb f (by omega) g) (by omega)
  have h0 : ¬ fa f &&& fa j = 0 := bit_ne (i := j) (by rw [bi_and, e1, bi_or, hjj]; simp) (bi_0 _)
  unfold kinS
  rw [if_neg h0, pc_ct (n := 32) (p := fun i => decide (i = f)) (by omega) (fun i hi => ?_), ct_one f (show f < 32 by omega)]
  · rfl
  · rw [bi_xor, e1, bi_or, bi_bit (by omega) hi, decide_eq_true hi, Bool.true_and]
    by_cases e : i = f
    · subst e; rw [hnf]; simp
    · rw [decide_eq_false e]; cases bi (fa j) i <;> rfl
theorem var_one (I : GI n fm fb fh fp fv fa lw lm lb lt MM HH PP BB TB MB AB PB) {f j : Nat} (hf : f < n) (hj : j < f) (h : fp f = nI j) : ¬ pc (fv j) < 1 := by
  have hn := I.hn
  rw [pc_ct (by omega) (I.inv.var j (by omega))]
  have h1 : 0 < fb_ct (fun i => decide (fp i = nI j)) n := fb_ct_pos.mpr ⟨f, hf, decide_eq_true h⟩
  have h2 := fb_ct_le (fun i => decide (fp i = nI j)) n
  exact fun h => absurd ((nI_ltI (b := 1) (by omega) (by omega)).mp h) (by omega)
theorem sha_ge (I : GI n fm fb fh fp fv fa lw lm lb lt MM HH PP BB TB MB AB PB) {f j : Nat} (hf : f < n) (hj : j < f) (h : fp f = nI j) : ¬ pc (fb f &&& fb j) < pc (fb j) - 1 := by
  have hn := I.hn
  have h1 := (I.par f hf j hj h).2.2
  have h2 := I.one j (by omega)
  have h3 := fb_ct_le (bi (fb j)) 12
  have h4 := fb_ct_le (fun b => bi (fb f) b && bi (fb j) b) 12
  obtain ⟨q, hq⟩ : ∃ q, fb_ct (bi (fb j)) 12 = q + 1 := ⟨fb_ct (bi (fb j)) 12 - 1, by omega⟩
  rw [bea_pc I (show j < n by omega), hq, nI_sub1, pcb (x := fb f &&& fb j) (d := 12) (by omega) (fun i hi g => I.b12 f hf i hi (by rw [bi_and, Bool.and_eq_true] at g; exact g.1)), show fb_ct (bi (fb f &&& fb j)) 12 = fb_ct (fun b => bi (fb f) b && bi (fb j) b) 12 from fb_ct_cong (fun b _ => bi_and _ _ _)]
  exact fun h => absurd ((nI_ltI (by omega) (by omega)).mp h) (by omega)
theorem bea_le (I : GI n fm fb fh fp fv fa lw lm lb lt MM HH PP BB TB MB AB PB) {f j : Nat} (hf : f < n) (hj : j < f) (h : fp f = nI j) : pc (fb j) ≤ pc (fb f) := by
  rw [bea_pc I hf, bea_pc I (show j < n by omega)]
  have h3 := fb_ct_le (bi (fb j)) 12
  have h4 := fb_ct_le (bi (fb f)) 12
  exact (nI_leI (by omega) (by omega)).mpr (I.par f hf j hj h).2.1
theorem by_all (I : GI n fm fb fh fp fv fa lw lm lb lt MM HH PP BB TB MB AB PB) : byF lt n = cntS lt (allS n) 6 := by
  rw [← tel_eq I]
  have : ∀ k, k ≤ n → byF lt k = teS TB k := by
    intro k
    induction k with
    | zero => exact fun _ => by rw [byF_0, teS_0]
    | succ k ih => exact fun hk => by rw [byF_succ, teS_succ, ih (by omega), val_eq I (by omega)]
  exact this n (Nat.le_refl n)
theorem va_all (I : GI n fm fb fh fp fv fa lw lm lb lt MM HH PP BB TB MB AB PB) : allM lt 6 = cntS lt (allS n) 6 := (cnt_all I.hn I.inv.tol 6 (Nat.le_refl 6)).symm
theorem wb_all (I : GI n fm fb fh fp fv fa lw lm lb lt MM HH PP BB TB MB AB PB) : wbT fb n 12 = sumB fb n := by
  have hn := I.hn
  have h1 : ∀ k, k ≤ 12 → wbT fb n k = nI (fb_sm (fun b => fb_ct (fun f => bi (fb f) b) n) k) := by
    intro k
    induction k with
    | zero => exact fun _ => by rw [wbT_0]; rfl
    | succ k ih =>
      intro hk
      rw [wbT_succ, ih (by omega), wb_mk, mk_pc _ (by omega), fb_sm_succ, nI_add, show fb_ct (fun f => hs (fb f) (nI k)) n = fb_ct (fun f => bi (fb f) k) n from fb_ct_cong (fun f _ => hs_bi _ (by omega))]
  have h2 : ∀ k, k ≤ n → sumB fb k = nI (fb_sm (fun f => fb_ct (bi (fb f)) 12) k) := by
    intro k
    induction k with
    | zero => exact fun _ => by rw [sumB_0]; rfl
    | succ k ih => exact fun hk => by rw [sumB_succ, ih (by omega), bea_pc I (by omega), fb_sm_succ, nI_add]
  rw [h1 12 (Nat.le_refl 12), h2 n (Nat.le_refl n)]
  exact congrArg nI (ct_swap (fun f b => bi (fb f) b) 12 n).symm
theorem wm_all (I : GI n fm fb fh fp fv fa lw lm lb lt MM HH PP BB TB MB AB PB) : wmT fm n 10 = nI n := by
  have hn := I.hn
  have h1 : ∀ k, k ≤ 10 → wmT fm n k = nI (fb_sm (fun m => fb_ct (fun f => decide (MM f = m)) n) k) := by
    intro k
    induction k with
    | zero => exact fun _ => by rw [wmT_0]; rfl
    | succ k ih =>
      intro hk
      rw [wmT_succ, ih (by omega), wm_mk, mk_pc _ (by omega), fb_sm_succ, nI_add, show fb_ct (fun f => decide (fm f = nI k)) n = fb_ct (fun f => decide (MM f = k)) n from fb_ct_cong (fun f hf => by
        have hr := I.row f hf
        rw [hr.1]
        exact decide_eq_decide.mpr (nI_eq (by omega) (by omega)))]
  rw [h1 10 (Nat.le_refl 10), ← ct_swap (fun f m => decide (MM f = m)) 10 n]
  congr 1
  rw [show fb_sm (fun f => fb_ct (fun m => decide (MM f = m)) 10) n = fb_sm (fun _ => 1) n from fb_sm_cong (fun f hf => by
    rw [← ct_one (MM f) (I.hMM f hf)]
    exact fb_ct_cong (fun m _ => decide_eq_decide.mpr eq_comm)), fb_sm_const, Nat.mul_one]
theorem sm_all0 {g : Nat → Nat} {k : Nat} (h : ∀ i, i < k → g i = 0) : fb_sm g k = 0 := by
  rw [fb_sm_cong h, fb_sm_const]; rfl
theorem lv_of0 (h : fb_sm (fun f => fb_ct (TB f) 6) n = 0) (w : Nat) : lvC MM BB TB w n = 0 := sm_all0 (fun f hf => by
  have := fb_sm_zero h f hf
  show (if _ then fb_ct (TB f) 6 else 0) = 0
  rw [this, ite_self])
theorem lv_to0 {w : Nat} (h : lvC MM BB TB w n = 0) {f : Nat} (hf : f < n) (g : (if 10 ≤ w then BB f (w - 10) else decide (MM f = w)) = true) : fb_ct (TB f) 6 = 0 := by
  have := fb_sm_zero h f hf
  rw [if_pos g] at this
  exact this
theorem all_te (I : GI n fm fb fh fp fv fa lw lm lb lt MM HH PP BB TB MB AB PB) : cntS lt (allS n) 6 = nI (fb_sm (fun f => fb_ct (TB f) 6) n) := by rw [← tel_eq I, te_ct]
theorem all_lt (hn : n ≤ 20) : fb_sm (fun f => fb_ct (TB f) 6) n < 2 ^ 31 := by
  have : fb_sm (fun f => fb_ct (TB f) 6) n ≤ n * 6 := fb_sm_bound (fun f _ => fb_ct_le _ _)
  omega
theorem favM_sgn (I : GI n fm fb fh fp fv fa lw lm lb lt MM HH PP BB TB MB AB PB) : (cntS lt (allS n) 6 = 0 ∧ (favM lt fm n 10).1 < 0) ∨ (¬ cntS lt (allS n) 6 = 0 ∧ ¬ (favM lt fm n 10).1 < 0) := by
  have hn := I.hn
  have hA := all_lt (TB := TB) hn
  have hb : ∀ w, lvC MM BB TB w n < 2 ^ 31 := fun w => by have := lvC_le (MM := MM) (BB := BB) (TB := TB) w n; omega
  rw [all_te I]
  rcases up_at (c := fun m => cntS lt (wmS fm (nI m) n) 6) (C := fun w => lvC MM BB TB w n) 10 (by omega) (fun m hm => ⟨favM_c I hm, hb m⟩) with ⟨h1, h2⟩ | ⟨j, hj, h1, h2, _⟩
  · refine Or.inl ⟨?_, ?_⟩
    · rw [sm_all0 (fun f hf => lv_to0 (h2 (MM f) (I.hMM f hf)) hf (by rw [if_neg (by have := I.hMM f hf; omega)]; exact decide_eq_true rfl))]; rfl
    · rw [show (favM lt fm n 10).1 = -1 from congrArg Prod.fst h1]; decide
  · refine Or.inr ⟨fun e => ?_, ?_⟩
    · have := lv_of0 (MM := MM) (BB := BB) ((nI_eq (b := 0) (by omega) (by omega)).mp e) j
      omega
    · rw [show (favM lt fm n 10).1 = nI j from congrArg Prod.fst h1]; exact nI_pos (by omega)
theorem favB_sgn (I : GI n fm fb fh fp fv fa lw lm lb lt MM HH PP BB TB MB AB PB) : (cntS lt (allS n) 6 = 0 ∧ (favB lt fb n 12).1 < 0) ∨ (¬ cntS lt (allS n) 6 = 0 ∧ ¬ (favB lt fb n 12).1 < 0) := by
  have hn := I.hn
  have hA := all_lt (TB := TB) hn
  have hb : ∀ w, lvC MM BB TB w n < 2 ^ 31 := fun w => by have := lvC_le (MM := MM) (BB := BB) (TB := TB) w n; omega
  rw [all_te I]
  rcases up_at (c := fun m => cntS lt (wbS fb (nI m) n) 6) (C := fun w => lvC MM BB TB (10 + w) n) 12 (by omega) (fun m hm => ⟨favB_c I hm, hb _⟩) with ⟨h1, h2⟩ | ⟨j, hj, h1, h2, _⟩
  · refine Or.inl ⟨?_, ?_⟩
    · rw [sm_all0 (fun f hf => by
        obtain ⟨b, hb12, g⟩ := fb_ct_pos.mp (I.one f hf)
        exact lv_to0 (h2 b hb12) hf (by rw [if_pos (by omega), show 10 + b - 10 = b by omega, I.bb f hf b hb12]; exact g))]; rfl
    · rw [show (favB lt fb n 12).1 = -1 from congrArg Prod.fst h1]; decide
  · refine Or.inr ⟨fun e => ?_, ?_⟩
    · have := lv_of0 (MM := MM) (BB := BB) ((nI_eq (b := 0) (by omega) (by omega)).mp e) (10 + j)
      omega
    · rw [show (favB lt fb n 12).1 = nI j from congrArg Prod.fst h1]; exact nI_pos (by omega)
/-! forgotten and told again -/
theorem fg_ct {f v : Nat} (hv : v < 6) (ht : TB f v = true) : fb_ct (TB f) 6 = fb_ct (up2 TB f v false f) 6 + 1 := ct_more hv (up2_at _ _ _ _) (fun i hi => by
  by_cases e : i = v
  · rw [if_pos e, e]; exact ht
  · rw [if_neg e, up2_nf _ _ (fun q => e q.2)])
theorem fg_val (I : GI n fm fb fh fp fv fa lw lm lb lt MM HH PP BB TB MB AB PB) {f v : Nat} (hf : f < n) (hv : v < 6) (ht : TB f v = true) : cntS (upd lt v (tu (lt v) (nI f))) ((1 : Int32) <<< (nI f &&& 31)) 6 = cntS lt ((1 : Int32) <<< (nI f &&& 31)) 6 - 1 := by
  rw [← val_eq (I.forget hf hv ht) hf, ← val_eq I hf, va_ct, va_ct, fg_ct hv ht, nI_sub1]
theorem fg_all (I : GI n fm fb fh fp fv fa lw lm lb lt MM HH PP BB TB MB AB PB) {f v : Nat} (hf : f < n) (hv : v < 6) (ht : TB f v = true) : cntS (upd lt v (tu (lt v) (nI f))) (allS n) 6 = cntS lt (allS n) 6 - 1 := by
  rw [all_te (I.forget hf hv ht), all_te I]
  have h1 := fb_sm_upd (fun k => fb_ct (TB k) 6) (fb_ct (up2 TB f v false f) 6) hf
  have h2 := fg_ct (TB := TB) hv ht
  have h3 : fb_sm (fun k => fb_ct (up2 TB f v false k) 6) n = fb_sm (fun k => if k = f then fb_ct (up2 TB f v false f) 6 else fb_ct (TB k) 6) n := fb_sm_cong (fun k hk => by
    by_cases e : k = f
    · rw [if_pos e, e]
    · rw [if_neg e]; exact fb_ct_cong (fun j _ => up2_nf _ _ (fun q => e q.1)))
  rw [show fb_sm (fun f => fb_ct (TB f) 6) n = fb_sm (fun k => fb_ct (up2 TB f v false k) 6) n + 1 by omega, nI_sub1]
theorem fg_off {f v : Nat} (hf : f < 32) (ht : hs (lt v) (nI f) = true) : hs (upd lt v (tu (lt v) (nI f)) v) (nI f) = false := by
  rw [hs_bi _ hf] at ht ⊢
  rw [upd_at, bi_tu _ hf hf, if_pos rfl, ht]; rfl
theorem fg_back {f v : Nat} (hf : f < 32) (ht : hs (lt v) (nI f) = true) : upd (upd lt v (tu (lt v) (nI f))) v (upd lt v (tu (lt v) (nI f)) v ||| ((1 : Int32) <<< (nI f &&& 31))) = lt := by
  rw [hs_bi _ hf] at ht
  funext w
  by_cases e : w = v
  · subst e
    rw [upd_at, upd_at]
    refine bi_ext (fun i hi => ?_)
    rw [bi_or1 _ hf hi, bi_tu _ hf hi]
    by_cases g : i = f
    · rw [if_pos g, g, ht]
    · rw [if_neg g, if_neg g]
  · rw [upd_ne _ _ e, upd_ne _ _ e]
end PM4
