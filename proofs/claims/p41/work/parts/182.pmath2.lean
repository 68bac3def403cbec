/-! what each act makes of both -/
theorem ct_one (b : Nat) {d : Nat} (hb : b < d) : fb_ct (fun j => decide (j = b)) d = 1 := by
  have := fb_ct_upd (fun _ => false) true hb
  have h0 : fb_ct (fun _ => false) d = 0 := fb_ct_zero.mpr (fun _ _ => rfl)
  rw [h0] at this
  simp only [Bool.false_eq_true, if_false, if_true, Nat.add_zero, Nat.zero_add] at this
  rw [← this]
  refine fb_ct_cong (fun k _ => ?_)
  by_cases h : k = b <;> simp [h]
/-- a bit more -/
theorem ct_more {p q : Nat → Bool} {b d : Nat} (hb : b < d) (hp : p b = false) (h : ∀ i, i < d → q i = if i = b then true else p i) : fb_ct q d = fb_ct p d + 1 := by
  have := fb_ct_upd p true hb
  rw [fb_ct_cong h]
  rw [hp] at this
  simpa using this
/-- one bit for another -/
theorem ct_swap1 {p q : Nat → Bool} {g b d : Nat} (hg : g < d) (hb : b < d) (hpg : p g = true) (hpb : p b = false) (h : ∀ i, i < d → q i = if i = b then true else if i = g then false else p i) : fb_ct q d = fb_ct p d ∧ fb_ct (fun i => q i && p i) d + 1 = fb_ct p d := by
  have hgb : g ≠ b := fun e => by rw [e, hpb] at hpg; cases hpg
  have h1 : fb_ct (fun k => if k = g then false else p k) d + 1 = fb_ct p d := by
    have := fb_ct_upd p false hg
    rw [hpg] at this
    simpa using this
  have h2 : fb_ct q d = fb_ct (fun k => if k = g then false else p k) d + 1 := ct_more hb (by simp [hpb]) h
  have h3 : fb_ct (fun i => q i && p i) d = fb_ct (fun k => if k = g then false else p k) d := fb_ct_cong (fun i hi => by
    rw [h i hi]
    by_cases e1 : i = b
    · subst e1; simp [hpb]
    · by_cases e2 : i = g
      · subst e2; simp [e1]
      · simp [e1, e2])
  exact ⟨by omega, by omega⟩
theorem bi_or1 (x : Int32) {b : Nat} (hb : b < 32) {i : Nat} (hi : i < 32) : bi (x ||| ((1 : Int32) <<< (nI b &&& 31))) i = if i = b then true else bi x i := by
  rw [bi_or, bi_bit hb hi]
  by_cases h : i = b <;> simp [h]
theorem bi_tu (x : Int32) {b : Nat} (hb : b < 32) {i : Nat} (hi : i < 32) : bi (tu x (nI b)) i = if i = b then !bi x i else bi x i := by
  unfold tu
  rw [bi_xor, bi_bit hb hi]
  by_cases h : i = b <;> simp [h]
section PM2
variable {n : Nat} {fm fb fh fp fv fa lw lm lb lt : Nat → Int32} {MM HH : Nat → Nat} {PP : Nat → Int32} {BB TB MB AB PB : Nat → Nat → Bool}
theorem GI.zero : GI 0 (fun _ => 0) (fun _ => 0) (fun _ => 0) (fun _ => 0) (fun _ => 0) (fun _ => 0) (fun _ => 0) (fun _ => 0) (fun _ => 0) (fun _ => 0) MM HH PP BB (fun _ _ => false) (fun _ _ => false) (fun _ _ => false) (fun _ _ => false) := by
  have no : ∀ {k : Nat} {P : Prop}, k < 0 → P := fun h => absurd h (Nat.not_lt_zero _)
  have fl : ∀ {i : Nat} {P : Prop}, bi 0 i = true → P := fun h => by rw [bi_0] at h; cases h
  exact ⟨Inv.zero _ _ _, fun _ h => no h, fun _ h => no h, fun _ h => no h, fun _ _ _ _ => (bi_0 _).symm, fun _ _ _ _ => (bi_0 _).symm, fun _ _ _ _ h => fl h, fun _ _ _ _ => (bi_0 _).symm, fun _ _ _ _ h => fl h, fun _ _ _ _ => (bi_0 _).symm, fun _ _ => bi_0 _, fun _ h => no h, fun _ h => no h⟩
theorem upA_at {α : Type} (f : Nat → α) (k : Nat) (x : α) : upA f k x k = x := if_pos rfl
theorem upA_ne {α : Type} (f : Nat → α) {k i : Nat} (x : α) (h : i ≠ k) : upA f k x i = f i := if_neg h
theorem upR_at (T : Nat → Nat → Bool) (f : Nat) (F : Nat → Bool) : upR T f F f = F := if_pos rfl
theorem upR_ne (T : Nat → Nat → Bool) {f g : Nat} (F : Nat → Bool) (h : g ≠ f) : upR T f F g = T g := if_neg h
/-- one more fable, whatever its parent is -/
theorem GI.more (I : GI n fm fb fh fp fv fa lw lm lb lt MM HH PP BB TB MB AB PB) {mo v : Nat} {x pw : Int32} {fv' fa' : Nat → Int32} {F : Nat → Bool} (hI : Inv (n + 1) (upd fp n pw) fv' fa' lw lt) (hmo : mo < 10) (hF : ∀ b, b < 12 → F b = bi x b) (hx : ∀ i, i < 32 → bi x i = true → i < 12) (h1 : 1 ≤ fb_ct (bi x) 12) (hp : ∀ j, j < n → pw = nI j → nI mo = fm j ∧ fb_ct (bi (fb j)) 12 ≤ fb_ct (bi x) 12 ∧ fb_ct (bi (fb j)) 12 ≤ fb_ct (fun b => bi x b && bi (fb j) b) 12 + 1) : GI (n + 1) (upd fm n (nI mo)) (upd fb n x) (upd fh n (nI v)) (upd fp n pw) fv' fa' lw lm lb lt (upA MM n mo) (upA HH n v) (upA PP n pw) (upR BB n F) TB MB AB PB := by
  refine ⟨hI, fun k hk => ?_, fun k hk b hb => ?_, fun k hk i hi => ?_, I.tb, I.mb, I.m10, I.ab, I.a12, I.pb, I.self, fun k hk => ?_, fun k hk j hj hpj => ?_⟩
  · by_cases e : k = n
    · subst e
      rw [upd_at, upd_at, upd_at, upA_at, upA_at, upA_at]
      exact ⟨rfl, hmo, rfl, rfl⟩
    · rw [upd_ne _ _ e, upd_ne _ _ e, upd_ne _ _ e, upA_ne _ _ e, upA_ne _ _ e, upA_ne _ _ e]
      exact I.row k (by omega)
  · by_cases e : k = n
    · subst e
      rw [upd_at, upR_at]; exact hF b hb
    · rw [upd_ne _ _ e, upR_ne _ _ e]; exact I.bb k (by omega) b hb
  · by_cases e : k = n
    · subst e
      rw [upd_at]; exact hx i hi
    · rw [upd_ne _ _ e]; exact I.b12 k (by omega) i hi
  · by_cases e : k = n
    · subst e
      rw [upd_at]; exact h1
    · rw [upd_ne _ _ e]; exact I.one k (by omega)
  · have hjn : j ≠ n := by omega
    by_cases e : k = n
    · subst e
      rw [upd_at] at hpj
      rw [upd_at, upd_at, upd_ne _ _ hjn, upd_ne _ _ hjn]
      exact hp j hj hpj
    · rw [upd_ne _ _ e] at hpj
      rw [upd_ne _ _ e, upd_ne _ _ e, upd_ne _ _ hjn, upd_ne _ _ hjn]
      exact I.par k (by omega) j hj hpj
theorem GI.addF (I : GI n fm fb fh fp fv fa lw lm lb lt MM HH PP BB TB MB AB PB) (hn : n < 20) {mo b v : Nat} (hmo : mo < 10) (hb : b < 12) {F : Nat → Bool} (hF : ∀ j, j < 12 → F j = if j = b then true else false) : GI (n + 1) (upd fm n (nI mo)) (upd fb n ((1 : Int32) <<< (nI b &&& 31))) (upd fh n (nI v)) (upd fp n (-1)) (wrV fv n (-1)) (wrA fa n (-1)) lw lm lb lt (upA MM n mo) (upA HH n v) (upA PP n (-1)) (upR BB n F) TB MB AB PB := by
  refine I.more (I.inv.root hn) hmo (fun j hj => ?_) (fun i hi h => ?_) ?_ (fun j hj e => absurd e.symm (nI_ne_m1 (by omega)))
  · rw [hF j hj, bi_bit (by omega) (by omega)]
    by_cases e : j = b <;> simp [e]
  · rw [bi_bit (by omega) hi, decide_eq_true_iff] at h; omega
  · rw [fb_ct_cong (q := fun j => decide (j = b)) (fun i hi => bi_bit (by omega) (by omega)), ct_one b hb]; omega
theorem GI.addV (I : GI n fm fb fh fp fv fa lw lm lb lt MM HH PP BB TB MB AB PB) (hn : n < 20) {f g b v : Nat} (hf : f < n) (hg : g < 12) (hb : b < 12) (hBg : BB f g = true) (hBb : BB f b = false) {F : Nat → Bool} (hF : ∀ j, j < 12 → F j = if j = b then true else if j = g then false else BB f j) : GI (n + 1) (upd fm n (fm f)) (upd fb n (tu (tu (fb f) (nI g)) (nI b))) (upd fh n (nI v)) (upd fp n (nI f)) (wrV fv n (nI f)) (wrA fa n (nI f)) lw lm lb lt (upA MM n (MM f)) (upA HH n v) (upA PP n (nI f)) (upR BB n F) TB MB AB PB := by
  have hg1 : bi (fb f) g = true := by rw [← I.bb f hf g hg]; exact hBg
  have hb1 : bi (fb f) b = false := by rw [← I.bb f hf b hb]; exact hBb
  have hgb : g ≠ b := fun e => by rw [e, hb1] at hg1; cases hg1
  have hbits : ∀ i, i < 32 → bi (tu (tu (fb f) (nI g)) (nI b)) i = if i = b then true else if i = g then false else bi (fb f) i := fun i hi => by
    rw [bi_tu _ (by omega) hi, bi_tu _ (by omega) hi]
    by_cases e1 : i = b
    · subst e1
      rw [if_pos rfl, if_pos rfl, if_neg (Ne.symm hgb), hb1]; rfl
    · rw [if_neg e1, if_neg e1]
      by_cases e2 : i = g
      · subst e2
        rw [if_pos rfl, if_pos rfl, hg1]; rfl
      · rw [if_neg e2, if_neg e2]
  obtain ⟨c1, c2⟩ := ct_swap1 (q := bi (tu (tu (fb f) (nI g)) (nI b))) hg hb hg1 hb1 (fun i hi => hbits i (by omega))
  rw [(I.row f hf).1]
  refine I.more (I.inv.child hn hf) (I.row f hf).2.1 (fun j hj => ?_) (fun i hi h => ?_) ?_ (fun j hj e => ?_)
  · rw [hF j hj, hbits j (by omega), I.bb f hf j hj]
  · rw [hbits i hi] at h
    by_cases e1 : i = b
    · omega
    · rw [if_neg e1] at h
      by_cases e2 : i = g
      · omega
      · rw [if_neg e2] at h; exact I.b12 f hf i hi h
  · rw [c1]; exact I.one f hf
  · have : f = j := (nI_eq (by omega) (by omega)).mp e
    subst this
    exact ⟨(I.row f hf).1.symm, by omega, by omega⟩
theorem no_var (I : GI n fm fb fh fp fv fa lw lm lb lt MM HH PP BB TB MB AB PB) {f : Nat} (hf : f < n) (h : hvS PP f n = false) : fv f = 0 := by
  refine eq0_bi.mpr (fun i hi => ?_)
  rw [I.inv.var f hf i hi]
  by_cases e : i < n
  · rw [decide_eq_true e, Bool.true_and]
    refine decide_eq_false (fun q => ?_)
    have : hvS PP f n = true := hvS_true e (by rw [(I.row i e).2.2.2]; exact q)
    rw [h] at this; cases this
  · rw [decide_eq_false e]; rfl
theorem GI.addB (I : GI n fm fb fh fp fv fa lw lm lb lt MM HH PP BB TB MB AB PB) {f b : Nat} (hf : f < n) (hb : b < 12) (hB : BB f b = false) (hv : hvS PP f n = false) : GI n fm (upd fb f (fb f ||| ((1 : Int32) <<< (nI b &&& 31)))) fh fp fv fa lw lm lb lt MM HH PP (up2 BB f b true) TB MB AB PB := by
  have hb1 : bi (fb f) b = false := by rw [← I.bb f hf b hb]; exact hB
  have hn := I.hn
  have hc : fb_ct (bi (fb f ||| ((1 : Int32) <<< (nI b &&& 31)))) 12 = fb_ct (bi (fb f)) 12 + 1 := ct_more hb hb1 (fun i hi => bi_or1 _ (by omega) (by omega))
  refine ⟨I.inv, I.row, fun k hk j hj => ?_, fun k hk i hi h => ?_, I.tb, I.mb, I.m10, I.ab, I.a12, I.pb, I.self, fun k hk => ?_, fun k hk j hj hpj => ?_⟩
  · by_cases e : k = f
    · subst e
      rw [upd_at, up2_row, bi_or1 _ (by omega) (by omega)]; dsimp only; rw [I.bb k hk j hj]
    · rw [upd_ne _ _ e, up2_ne e]; exact I.bb k hk j hj
  · by_cases e : k = f
    · subst e
      rw [upd_at, bi_or1 _ (by omega) hi] at h
      by_cases e1 : i = b
      · omega
      · rw [if_neg e1] at h; exact I.b12 k hk i hi h
    · rw [upd_ne _ _ e] at h; exact I.b12 k hk i hi h
  · by_cases e : k = f
    · subst e
      rw [upd_at, hc]; omega
    · rw [upd_ne _ _ e]; exact I.one k hk
  · have hjf : j ≠ f := fun e => by
      subst e
      have : hvS PP j n = true := hvS_true hk (by rw [(I.row k hk).2.2.2]; exact hpj)
      rw [hv] at this; cases this
    obtain ⟨h1, h2, h3⟩ := I.par k hk j hj hpj
    rw [upd_ne _ _ hjf]
    refine ⟨h1, ?_, ?_⟩
    · by_cases e : k = f
      · subst e
        rw [upd_at, hc]; omega
      · rw [upd_ne _ _ e]; exact h2
    · by_cases e : k = f
      · subst e
        rw [upd_at]
        refine Nat.le_trans h3 (Nat.succ_le_succ (fb_ct_sub (fun i hi hq => ?_)))
        rw [Bool.and_eq_true] at hq ⊢
        refine ⟨?_, hq.2⟩
        rw [bi_or1 _ (by omega) (by omega)]
        by_cases e1 : i = b
        · rw [if_pos e1]
        · rw [if_neg e1]; exact hq.1
      · rw [upd_ne _ _ e]; exact h3
theorem bea_eq (I : GI n fm fb fh fp fv fa lw lm lb lt MM HH PP BB TB MB AB PB) {f : Nat} (hf : f < n) : vaS BB f 12 = pc (fb f) := by
  rw [va_ct, pcb (by omega) (I.b12 f hf)]
  congr 1
  exact fb_ct_cong (fun b hb => I.bb f hf b hb)
theorem val_eq (I : GI n fm fb fh fp fv fa lw lm lb lt MM HH PP BB TB MB AB PB) {f : Nat} (hf : f < n) : vaS TB f 6 = cntS lt ((1 : Int32) <<< (nI f &&& 31)) 6 := by
  have hn := I.hn
  rw [cnt_pl lt (by omega) 6, pl_va (by omega) 6 (fun v hv => I.tb v hv f (by omega))]
theorem tel_eq (I : GI n fm fb fh fp fv fa lw lm lb lt MM HH PP BB TB MB AB PB) : teS TB n = cntS lt (allS n) 6 := by
  rw [cnt_all I.hn I.inv.tol 6 (Nat.le_refl 6), te_all I.hn I.inv.tol I.tb]
theorem addB_eq (I : GI n fm fb fh fp fv fa lw lm lb lt MM HH PP BB TB MB AB PB) {f b : Nat} (hf : f < n) (hb : b < 12) (hB : BB f b = false) (hv : hvS PP f n = false) : vaS (up2 BB f b true) f 12 = pc (fb f ||| ((1 : Int32) <<< (nI b &&& 31))) := by
  have := bea_eq (I.addB hf hb hB hv) hf
  rw [upd_at] at this
  exact this
theorem GI.turnP (I : GI n fm fb fh fp fv fa lw lm lb lt MM HH PP BB TB MB AB PB) {v o : Nat} (hv : v < 6) (ho : o < 6) (hvo : v ≠ o) : GI n fm fb fh fp fv fa (turnW lw v o) lm lb lt MM HH PP BB TB MB AB (up2 (up2 PB v o (!PB v o)) o v (!PB v o)) ∧ hs (turnW lw v o v) (nI o) = !PB v o := by
  have hb : ∀ a, a < 6 → ∀ w, w < 6 → bi (turnW lw v o a) w = if a = v ∧ w = o ∨ a = o ∧ w = v then !bi (lw a) w else bi (lw a) w := fun a ha w hw => by
    unfold turnW
    by_cases e1 : a = o
    · subst e1
      rw [upd_at, bi_tu _ (by omega) (by omega), upd_ne _ _ (Ne.symm hvo)]
      by_cases e2 : w = v
      · subst e2; simp [hvo, Ne.symm hvo]
      · simp [e2, Ne.symm hvo]
    · rw [upd_ne _ _ e1]
      by_cases e3 : a = v
      · subst e3
        rw [upd_at, bi_tu _ (by omega) (by omega)]
        by_cases e2 : w = o
        · subst e2; simp
        · simp [e1, e2]
      · rw [upd_ne _ _ e3]; simp [e1, e3]
  have hp : ∀ a, a < 6 → ∀ w, w < 6 → up2 (up2 PB v o (!PB v o)) o v (!PB v o) a w = if a = v ∧ w = o ∨ a = o ∧ w = v then !PB v o else PB a w := fun a ha w hw => by
    unfold up2
    by_cases e1 : a = o
    · subst e1
      by_cases e2 : w = v
      · subst e2; simp
      · simp [e2, Ne.symm hvo]
    · by_cases e3 : a = v
      · subst e3
        by_cases e2 : w = o
        · subst e2; simp [e1]
        · simp [e1, e2]
      · simp [e1, e3]
  have hsy : PB o v = PB v o := by rw [I.pb o ho v hv, I.pb v hv o ho, I.inv.sym o ho v hv]
  refine ⟨⟨I.inv.turn hv ho hvo, I.row, I.bb, I.b12, I.tb, I.mb, I.m10, I.ab, I.a12, fun a ha w hw => ?_, fun a ha => ?_, I.one, I.par⟩, ?_⟩
  · rw [hp a ha w hw, hb a ha w hw]
    by_cases e : a = v ∧ w = o ∨ a = o ∧ w = v
    · rw [if_pos e, if_pos e]
      rcases e with ⟨rfl, rfl⟩ | ⟨rfl, rfl⟩
      · rw [I.pb _ ha _ hw]
      · rw [← I.pb _ ha _ hw, hsy]
    · rw [if_neg e, if_neg e, I.pb a ha w hw]
  · rw [hb a ha a ha, if_neg (fun q => q.elim (fun q => hvo (q.1.symm.trans q.2)) (fun q => hvo (q.2.symm.trans q.1))), I.self a ha]
  · rw [hs_bi _ (by omega), hb v hv o ho, if_pos (Or.inl ⟨rfl, rfl⟩), I.pb v hv o ho]
theorem tu_rows {l : Nat → Int32} {T : Nat → Nat → Bool} {d v k : Nat} (hd : d ≤ 32) (hk : k < d) (h : ∀ v, v < 6 → ∀ m, m < d → T v m = bi (l v) m) (h2 : ∀ v, v < 6 → ∀ i, i < 32 → bi (l v) i = true → i < d) (hv : v < 6) : (∀ w, w < 6 → ∀ m, m < d → up2 T v k (!T v k) w m = bi (upd l v (tu (l v) (nI k)) w) m) ∧ (∀ w, w < 6 → ∀ i, i < 32 → bi (upd l v (tu (l v) (nI k)) w) i = true → i < d) ∧ hs (tu (l v) (nI k)) (nI k) = !T v k := by
  refine ⟨fun w hw m hm => ?_, fun w hw i hi g => ?_, ?_⟩
  · by_cases e : w = v
    · subst e
      rw [upd_at, up2_row, bi_tu _ (by omega) (by omega)]; dsimp only; rw [h w hw m hm, h w hw k hk]
      by_cases e1 : m = k
      · subst e1; simp
      · simp [e1]
    · rw [upd_ne _ _ e, up2_ne e, h w hw m hm]
  · by_cases e : w = v
    · subst e
      rw [upd_at, bi_tu _ (by omega) hi] at g
      by_cases e1 : i = k
      · omega
      · rw [if_neg e1] at g; exact h2 w hw i hi g
    · rw [upd_ne _ _ e] at g; exact h2 w hw i hi g
  · rw [hs_bi _ (by omega), bi_tu _ (by omega) (by omega), if_pos rfl, h v hv k hk]
theorem GI.turnM (I : GI n fm fb fh fp fv fa lw lm lb lt MM HH PP BB TB MB AB PB) {v k : Nat} (hv : v < 6) (hk : k < 10) : GI n fm fb fh fp fv fa lw (upd lm v (tu (lm v) (nI k))) lb lt MM HH PP BB TB (up2 MB v k (!MB v k)) AB PB ∧ hs (tu (lm v) (nI k)) (nI k) = !MB v k := by
  obtain ⟨h1, h2, h3⟩ := tu_rows (by omega) hk I.mb I.m10 hv
  exact ⟨⟨I.inv, I.row, I.bb, I.b12, I.tb, h1, h2, I.ab, I.a12, I.pb, I.self, I.one, I.par⟩, h3⟩
theorem GI.turnA (I : GI n fm fb fh fp fv fa lw lm lb lt MM HH PP BB TB MB AB PB) {v k : Nat} (hv : v < 6) (hk : k < 12) : GI n fm fb fh fp fv fa lw lm (upd lb v (tu (lb v) (nI k))) lt MM HH PP BB TB MB (up2 AB v k (!AB v k)) PB ∧ hs (tu (lb v) (nI k)) (nI k) = !AB v k := by
  obtain ⟨h1, h2, h3⟩ := tu_rows (by omega) hk I.ab I.a12 hv
  exact ⟨⟨I.inv, I.row, I.bb, I.b12, I.tb, I.mb, I.m10, h1, h2, I.pb, I.self, I.one, I.par⟩, h3⟩
theorem GI.tell (I : GI n fm fb fh fp fv fa lw lm lb lt MM HH PP BB TB MB AB PB) {f v : Nat} (hf : f < n) (hv : v < 6) : GI n fm fb fh fp fv fa lw lm lb (upd lt v (lt v ||| ((1 : Int32) <<< (nI f &&& 31)))) MM HH PP BB (up2 TB f v true) MB AB PB := by
  have hn := I.hn
  refine ⟨I.inv.told (tol_upd I.inv.tol (or_bits hf hn (I.inv.tol v hv))), I.row, I.bb, I.b12, fun w hw g hg => ?_, I.mb, I.m10, I.ab, I.a12, I.pb, I.self, I.one, I.par⟩
  unfold up2
  by_cases e : w = v
  · subst e
    rw [upd_at, bi_or1 _ (by omega) (by omega)]
    by_cases e1 : g = f
    · subst e1; simp
    · rw [if_neg e1, if_neg e1]; exact I.tb w hw g hg
  · rw [upd_ne _ _ e]
    by_cases e1 : g = f
    · rw [if_pos e1, if_neg e]; exact I.tb w hw g hg
    · rw [if_neg e1]; exact I.tb w hw g hg
theorem GI.forget (I : GI n fm fb fh fp fv fa lw lm lb lt MM HH PP BB TB MB AB PB) {f v : Nat} (hf : f < n) (hv : v < 6) (ht : TB f v = true) : GI n fm fb fh fp fv fa lw lm lb (upd lt v (tu (lt v) (nI f))) MM HH PP BB (up2 TB f v false) MB AB PB := by
  have hn := I.hn
  have hb : bi (lt v) f = true := by rw [← I.tb v hv f (by omega)]; exact ht
  refine ⟨I.inv.told (tol_upd I.inv.tol (tu_bits (by omega) (by rw [hs_bi _ (by omega)]; exact hb) (I.inv.tol v hv))), I.row, I.bb, I.b12, fun w hw g hg => ?_, I.mb, I.m10, I.ab, I.a12, I.pb, I.self, I.one, I.par⟩
  unfold up2
  by_cases e : w = v
  · subst e
    rw [upd_at, bi_tu _ (by omega) (by omega)]
    by_cases e1 : g = f
    · subst e1; simp [hb]
    · rw [if_neg e1, if_neg e1]; exact I.tb w hw g hg
  · rw [upd_ne _ _ e]
    by_cases e1 : g = f
    · rw [if_pos e1, if_neg e]; exact I.tb w hw g hg
    · rw [if_neg e1]; exact I.tb w hw g hg
end PM2
