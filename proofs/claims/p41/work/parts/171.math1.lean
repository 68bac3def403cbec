/-! the bits of an int -/
theorem bi_and (x y : Int32) (i : Nat) : bi (x &&& y) i = (bi x i && bi y i) := by
  show (x &&& y).toBitVec.getLsbD i = _
  rw [Int32.toBitVec_and, BitVec.getLsbD_and]; rfl
theorem bi_or (x y : Int32) (i : Nat) : bi (x ||| y) i = (bi x i || bi y i) := by
  show (x ||| y).toBitVec.getLsbD i = _
  rw [Int32.toBitVec_or, BitVec.getLsbD_or]; rfl
theorem bi_xor (x y : Int32) (i : Nat) : bi (x ^^^ y) i = (bi x i ^^ bi y i) := by
  show (x ^^^ y).toBitVec.getLsbD i = _
  rw [Int32.toBitVec_xor, BitVec.getLsbD_xor]; rfl
theorem bi_ext {x y : Int32} (h : ∀ i, i < 32 → bi x i = bi y i) : x = y := Int32.toBitVec_inj.1 (BitVec.eq_of_getLsbD_eq h)
theorem bi_0 (i : Nat) : bi 0 i = false := by
  show (BitVec.ofNat 32 0).getLsbD i = false
  simp
theorem bi_m1 {i : Nat} (h : i < 32) : bi (-1) i = true := by
  have : ∀ i, i < 32 → bi (-1) i = true := by decide +kernel
  exact this i h
theorem bi_not (x : Int32) {i : Nat} (h : i < 32) : bi (x ^^^ (-1)) i = !bi x i := by rw [bi_xor, bi_m1 h]; cases bi x i <;> rfl
theorem bi_hi (x : Int32) {i : Nat} (h : 32 ≤ i) : bi x i = false := BitVec.getLsbD_of_ge _ _ h
theorem bi_bit {k : Nat} (hk : k < 32) {i : Nat} (hi : i < 32) : bi ((1 : Int32) <<< (nI k &&& 31)) i = decide (i = k) := by
  have : ∀ k, k < 32 → ∀ i, i < 32 → bi ((1 : Int32) <<< (nI k &&& 31)) i = decide (i = k) := by decide +kernel
  exact this k hk i hi
theorem bi_sshr (x : Int32) {k : Nat} (hk : k < 32) : bi (x >>> nI k) 0 = bi x k := by
  show (x >>> nI k).toBitVec.getLsbD 0 = _
  rw [Int32.toBitVec_shiftRight]
  have e : (nI k).toBitVec.smod 32 = BitVec.ofNat 32 k := by
    have : ∀ k, k < 32 → (nI k).toBitVec.smod 32 = BitVec.ofNat 32 k := by decide +kernel
    exact this k hk
  rw [e, BitVec.sshiftRight', BitVec.getLsbD_sshiftRight]
  have h2 : (BitVec.ofNat 32 k).toNat = k := by rw [BitVec.toNat_ofNat]; omega
  rw [h2]
  simp [bi, hk]
theorem and1_bi (y : Int32) : (y &&& 1 = 0) ↔ bi y 0 = false := by
  have h1 : ∀ i, i < 32 → bi (y &&& 1) i = (bi y i && decide (i = 0)) := fun i hi => by
    rw [bi_and]
    have : bi 1 i = decide (i = 0) := by
      have : ∀ i, i < 32 → bi 1 i = decide (i = 0) := by decide +kernel
      exact this i hi
    rw [this]
  constructor
  · intro h
    have := h1 0 (by decide)
    rw [h, bi_0] at this
    simpa using this.symm
  · intro h
    refine bi_ext fun i hi => ?_
    rw [h1 i hi, bi_0]
    by_cases g : i = 0
    · subst g; simp [h]
    · simp [g]
theorem hs_bi (x : Int32) {k : Nat} (hk : k < 32) : hs x (nI k) = bi x k := by
  have e : (nI k &&& 31) = nI k := by
    have : ∀ k, k < 32 → (nI k &&& 31) = nI k := by decide +kernel
    exact this k hk
  unfold hs
  rw [e]
  have h := and1_bi (x >>> nI k)
  rw [bi_sshr x hk] at h
  cases g : bi x k
  · simp [h.mpr g]
  · have : ¬ (x >>> nI k) &&& 1 = 0 := fun q => by rw [h.mp q] at g; cases g
    simp [this]
theorem bi_one {k : Nat} (hk : k < 32) {i : Nat} (hi : i < 32) : bi (bitI (nI k)) i = decide (i = k) := bi_bit hk hi
theorem bi_allS {n : Nat} (hn : n ≤ 20) {i : Nat} (hi : i < 32) : bi (allS n) i = decide (i < n) := by
  have : ∀ n, n < 21 → ∀ i, i < 32 → bi (allS n) i = decide (i < n) := by unfold allS; decide +kernel
  exact this n (by omega) i hi
theorem eq0_bi {x : Int32} : x = 0 ↔ ∀ i, i < 32 → bi x i = false := ⟨fun h i _ => by rw [h, bi_0], fun h => bi_ext fun i hi => by rw [h i hi, bi_0]⟩
/-- counts -/
theorem pcN_n {x : Int32} {n : Nat} (hn : n ≤ 32) (h : ∀ i, n ≤ i → i < 32 → bi x i = false) : pcN x = fb_ct (bi x) n := by
  show fb_ct (bi x) 32 = _
  have e : 32 = n + (32 - n) := by omega
  rw [e, fb_ct_split]
  have : fb_ct (fun k => bi x (n + k)) (32 - n) = 0 := fb_ct_zero.mpr fun k hk => h (n + k) (by omega) (by omega)
  omega
theorem pc_eq0 {x : Int32} (h : ∀ i, i < 32 → bi x i = false) : pc x = 0 := by
  rw [eq0_bi.mpr h]; show nI (pcN 0) = 0; rw [pcN_0]; rfl
theorem pcN_and_bit (x : Int32) {k : Nat} (hk : k < 32) : pcN (x &&& ((1 : Int32) <<< (nI k &&& 31))) = if bi x k then 1 else 0 := by
  have h : fb_ct (bi (x &&& ((1 : Int32) <<< (nI k &&& 31)))) 32 = fb_ct (fun j => if j = k then bi x k else false) 32 := fb_ct_cong fun i hi => by
    rw [bi_and, bi_bit hk hi]
    by_cases g : i = k
    · subst g; simp
    · simp [g]
  show fb_ct _ 32 = _
  rw [h]
  have := fb_ct_upd (fun _ => false) (bi x k) hk
  have h0 : fb_ct (fun _ => false) 32 = 0 := fb_ct_zero.mpr fun _ _ => rfl
  rw [h0] at this
  simp only [Bool.false_eq_true, if_false, Nat.add_zero, Nat.zero_add] at this
  exact this

/-! counts over masks -/
theorem pc_and_bit (x : Int32) {k : Nat} (hk : k < 32) : pc (x &&& ((1 : Int32) <<< (nI k &&& 31))) = z_b (hs x (nI k)) := by
  unfold pc
  rw [pcN_and_bit x hk, hs_bi x hk]
  cases bi x k <;> rfl
theorem cntS_succ (lt : Nat → Int32) (w : Int32) (k : Nat) : cntS lt w (k + 1) = cntS lt w k + pc (lt k &&& w) := rfl
theorem allM_succ (lt : Nat → Int32) (k : Nat) : allM lt (k + 1) = allM lt k + pc (lt k) := rfl
theorem cnt_pl (lt : Nat → Int32) {f : Nat} (hf : f < 32) : ∀ k, cntS lt ((1 : Int32) <<< (nI f &&& 31)) k = plS lt f k
  | 0 => rfl
  | k + 1 => by rw [cntS_succ, plS_succ, cnt_pl lt hf k, pc_and_bit _ hf]
theorem cnt_all {lt : Nat → Int32} {n : Nat} (hn : n ≤ 20) (ht : ∀ v, v < 6 → ∀ i, i < 32 → bi (lt v) i = true → i < n) : ∀ k, k ≤ 6 → cntS lt (allS n) k = allM lt k
  | 0, _ => rfl
  | k + 1, hk => by
    rw [cntS_succ, allM_succ, cnt_all hn ht k (by omega)]
    congr 2
    refine bi_ext fun i hi => ?_
    rw [bi_and, bi_allS hn hi]
    cases g : bi (lt k) i
    · rfl
    · simp [ht k (by omega) i hi g]
theorem nI_step (a : Nat) (p : Bool) : nI a + (if p = true then 1 else 0) = nI (a + if p then 1 else 0) := by
  cases p
  · simp
  · simp only [if_true]; exact nI_1 a
theorem chS_ct (fp : Nat → Int32) (f : Nat) : ∀ k, chS fp f k = nI (fb_ct (fun i => decide (fp i = nI f)) k)
  | 0 => rfl
  | k + 1 => by
    rw [chS_succ, chS_ct fp f k, fb_ct_succ, ← nI_step]
    congr 1
    by_cases h : fp k = nI f <;> simp [h]
theorem pc_ct {x : Int32} {n : Nat} {p : Nat → Bool} (hn : n ≤ 32) (h : ∀ i, i < 32 → bi x i = (decide (i < n) && p i)) : pc x = nI (fb_ct p n) := by
  unfold pc
  rw [pcN_n hn (fun i h1 h2 => by rw [h i h2]; simp [Nat.not_lt.mpr h1])]
  congr 1
  refine fb_ct_cong fun i hi => ?_
  rw [h i (by omega)]; simp [hi]
theorem ch_pc {fp fv : Nat → Int32} {f n : Nat} (hn : n ≤ 20) (h : ∀ i, i < 32 → bi (fv f) i = (decide (i < n) && decide (fp i = nI f))) : pc (fv f) = chS fp f n := by
  rw [chS_ct, pc_ct (by omega) h]
/-- a mask that is gathered bit by bit -/
def mk (p : Nat → Bool) : Nat → Int32 := z_fold (fun f a => if p f then a ||| ((1 : Int32) <<< (nI f &&& 31)) else a) 0
theorem mk_succ (p : Nat → Bool) (k : Nat) : mk p (k + 1) = if p k then mk p k ||| ((1 : Int32) <<< (nI k &&& 31)) else mk p k := rfl
theorem mk_bi (p : Nat → Bool) : ∀ k, k ≤ 32 → ∀ i, i < 32 → bi (mk p k) i = (decide (i < k) && p i)
  | 0, _, i, hi => by show bi 0 i = _; rw [bi_0]; simp
  | k + 1, hk, i, hi => by
    rw [mk_succ]
    have ih := mk_bi p k (by omega) i hi
    by_cases h : p k = true
    · rw [if_pos h, bi_or, ih, bi_bit (by omega) hi]
      by_cases g : i = k
      · subst g; simp [h]
      · have e : decide (i < k + 1) = decide (i < k) := decide_eq_decide.mpr (by omega)
        rw [e]; simp [g]
    · rw [if_neg h, ih]
      by_cases g : i = k
      · subst g; simp [h]
      · have e : decide (i < k + 1) = decide (i < k) := decide_eq_decide.mpr (by omega)
        rw [e]
theorem wel_mk (lm lb fm fb : Nat → Int32) (v : Nat) : ∀ k, welS lm lb fm fb v k = mk (fun f => !ban lm lb fm fb f v) k
  | 0 => rfl
  | k + 1 => by
    show (if ban lm lb fm fb k v then welS lm lb fm fb v k else welS lm lb fm fb v k ||| 1 <<< (nI k &&& 31)) = _
    rw [wel_mk lm lb fm fb v k, mk_succ]
    cases ban lm lb fm fb k v <;> simp
theorem wm_mk (fm : Nat → Int32) (w : Int32) : ∀ k, wmS fm w k = mk (fun f => decide (fm f = w)) k
  | 0 => rfl
  | k + 1 => by
    show (if fm k = w then wmS fm w k ||| 1 <<< (nI k &&& 31) else wmS fm w k) = _
    rw [wm_mk fm w k, mk_succ]
    by_cases h : fm k = w <;> simp [h]
theorem wb_mk (fb : Nat → Int32) (w : Int32) : ∀ k, wbS fb w k = mk (fun f => hs (fb f) w) k
  | 0 => rfl
  | k + 1 => by
    show (if hs (fb k) w = true then wbS fb w k ||| 1 <<< (nI k &&& 31) else wbS fb w k) = _
    rw [wb_mk fb w k, mk_succ]
theorem mk_pc (p : Nat → Bool) {n : Nat} (hn : n ≤ 32) : pc (mk p n) = nI (fb_ct p n) := pc_ct hn (mk_bi p n hn)
theorem aw_ct (lm lb fm fb : Nat → Int32) (v : Nat) : ∀ k, awS lm lb fm fb v k = nI (fb_ct (fun f => !ban lm lb fm fb f v) k)
  | 0 => rfl
  | k + 1 => by
    rw [awS_succ, aw_ct lm lb fm fb v k, fb_ct_succ, ← nI_step]
    cases ban lm lb fm fb k v <;> simp
theorem fwM_ct (fm : Nat → Int32) (w : Int32) : ∀ k, fwM fm w k = nI (fb_ct (fun f => decide (fm f = w)) k)
  | 0 => rfl
  | k + 1 => by
    rw [fwM_succ, fwM_ct fm w k, fb_ct_succ, ← nI_step]
    by_cases h : fm k = w <;> simp [h]
theorem fwB_ct (fb : Nat → Int32) (w : Int32) : ∀ k, fwB fb w k = nI (fb_ct (fun f => hs (fb f) w) k)
  | 0 => rfl
  | k + 1 => by
    rw [fwB_succ, fwB_ct fb w k, fb_ct_succ, ← nI_step]
    cases hs (fb k) w <;> rfl
theorem aw_pc (lm lb fm fb : Nat → Int32) (v : Nat) {n : Nat} (hn : n ≤ 20) : pc (welS lm lb fm fb v n) = awS lm lb fm fb v n := by rw [wel_mk, mk_pc _ (by omega), aw_ct]
theorem fwM_pc (fm : Nat → Int32) (w : Int32) {n : Nat} (hn : n ≤ 20) : pc (wmS fm w n) = fwM fm w n := by rw [wm_mk, mk_pc _ (by omega), fwM_ct]
theorem fwB_pc (fb : Nat → Int32) (w : Int32) {n : Nat} (hn : n ≤ 20) : pc (wbS fb w n) = fwB fb w n := by rw [wb_mk, mk_pc _ (by omega), fwB_ct]
theorem pc_or_new (x M : Int32) {k : Nat} (hk : k < 32) (h : bi M k = false) : pc (x &&& (M ||| ((1 : Int32) <<< (nI k &&& 31)))) = pc (x &&& M) + z_b (hs x (nI k)) := by
  rw [← pc_and_bit x hk]
  unfold pc
  rw [nI_add]
  congr 1
  show fb_ct _ 32 = fb_ct _ 32 + fb_ct _ 32
  rw [← fb_ct_or]
  · refine fb_ct_cong fun i _ => ?_
    rw [bi_and, bi_or, bi_and, bi_and]
    cases bi x i <;> simp
  · intro i hi ⟨h1, h2⟩
    rw [bi_and, Bool.and_eq_true] at h1 h2
    rw [bi_bit hk hi, decide_eq_true_eq] at h2
    rw [h2.2, h] at h1
    exact absurd h1.2 (by decide)
theorem cnt_or_new (lt : Nat → Int32) (M : Int32) {k : Nat} (hk : k < 32) (h : bi M k = false) : ∀ j, cntS lt (M ||| ((1 : Int32) <<< (nI k &&& 31))) j = cntS lt M j + plS lt k j
  | 0 => rfl
  | j + 1 => by
    rw [cntS_succ, cntS_succ, plS_succ, cnt_or_new lt M hk h j, pc_or_new _ _ hk h]
    ac_rfl
theorem cnt_0 (lt : Nat → Int32) : ∀ j, cntS lt 0 j = 0
  | 0 => rfl
  | j + 1 => by
    rw [cntS_succ, cnt_0 lt j, show lt j &&& 0 = 0 from bi_ext fun i _ => by rw [bi_and, bi_0]; simp]
    show 0 + nI (pcN 0) = 0
    rw [pcN_0]; rfl
theorem fav_mk (lt fm fb : Nat → Int32) (n : Nat) (b : Bool) (m : Nat) : ∀ k, k ≤ 20 → cntS lt (mk (fun f => if b then decide (fm f = nI m) else hs (fb f) (nI m)) k) 6 = favX lt fm fb n b m k
  | 0, _ => cnt_0 lt 6
  | k + 1, hk => by
    have ih := fav_mk lt fm fb n b m k (by omega)
    rw [mk_succ, favX_succ]
    by_cases h : (if b = true then decide (fm k = nI m) else hs (fb k) (nI m)) = true
    · rw [if_pos h, if_pos h, cnt_or_new lt _ (by omega) (by rw [mk_bi _ k (by omega) k (by omega)]; simp), ih]
    · rw [if_neg h, if_neg h, ih]
theorem favM_Y (lt fm fb : Nat → Int32) {n : Nat} (hn : n ≤ 20) : ∀ k, favM lt fm n k = favY lt fm fb n true k
  | 0 => (show favM lt fm n 0 = (-1, 0) from rfl).trans (favY_0 lt fm fb n true).symm
  | k + 1 => by
    rw [favM_succ, favY_succ, favM_Y lt fm fb hn k]
    have e : cntS lt (wmS fm (nI k) n) 6 = favX lt fm fb n true k n := by
      rw [wm_mk, show (fun f => decide (fm f = nI k)) = (fun f => if true = true then decide (fm f = nI k) else hs (fb f) (nI k)) from funext fun f => (if_pos rfl).symm]
      exact fav_mk lt fm fb n true k n hn
    rw [e]
    by_cases h : (favY lt fm fb n true k).2 < favX lt fm fb n true k n
    · rw [if_pos h, if_neg (Int32.not_le.mpr h)]
    · rw [if_neg h, if_pos (Int32.not_lt.mp h)]
theorem favB_Y (lt fm fb : Nat → Int32) {n : Nat} (hn : n ≤ 20) : ∀ k, favB lt fb n k = favY lt fm fb n false k
  | 0 => (show favB lt fb n 0 = (-1, 0) from rfl).trans (favY_0 lt fm fb n false).symm
  | k + 1 => by
    rw [favB_succ, favY_succ, favB_Y lt fm fb hn k]
    have e : cntS lt (wbS fb (nI k) n) 6 = favX lt fm fb n false k n := by
      rw [wb_mk, show (fun f => hs (fb f) (nI k)) = (fun f => if false = true then decide (fm f = nI k) else hs (fb f) (nI k)) from funext fun f => (if_neg Bool.false_ne_true).symm]
      exact fav_mk lt fm fb n false k n hn
    rw [e]
    by_cases h : (favY lt fm fb n false k).2 < favX lt fm fb n false k n
    · rw [if_pos h, if_neg (Int32.not_le.mpr h)]
    · rw [if_neg h, if_pos (Int32.not_lt.mp h)]

/-! parents, ancestors, variants -/
theorem grF_succ (w : Int32) (k : Nat) : grF w (k + 1) = if hs w (nI k) then nI k else grF w k := rfl
theorem grF_out {w : Int32} {n : Nat} : ∀ k, (∀ i, n ≤ i → i < n + k → hs w (nI i) = false) → grF w (n + k) = grF w n
  | 0, _ => rfl
  | k + 1, h => by
    rw [← Nat.add_assoc, grF_succ, h (n + k) (by omega) (by omega), if_neg (by decide)]
    exact grF_out k (fun i h1 h2 => h i h1 (by omega))
theorem grF_m1 {w : Int32} : ∀ {n : Nat}, n < 2 ^ 31 → (grF w n = -1 ↔ ∀ i, i < n → hs w (nI i) = false)
  | 0, _ => ⟨fun _ i hi => absurd hi (Nat.not_lt_zero _), fun _ => rfl⟩
  | n + 1, hn => by
    rw [grF_succ]
    cases h : hs w (nI n)
    · rw [if_neg (by decide), grF_m1 (by omega)]
      constructor
      · intro g i hi
        rcases Nat.lt_or_ge i n with q | q
        · exact g i q
        · rw [show i = n by omega]; exact h
      · intro g i hi; exact g i (by omega)
    · rw [if_pos rfl]
      constructor
      · intro g; exact absurd g (nI_ne_m1 (by omega))
      · intro g; rw [g n (by omega)] at h; cases h
theorem kin_eq {a b : Int32} {n : Nat} (hn : n ≤ 20) (h : ∀ i, i < 32 → bi (a &&& b) i = true → i < n) : kinS a b = kinM a b n := by
  unfold kinS kinM
  have e : (a &&& b = 0) ↔ (grF (a &&& b) n = -1) := by
    rw [grF_m1 (by omega), eq0_bi]
    constructor
    · intro g i hi; rw [hs_bi _ (by omega)]; exact g i (by omega)
    · intro g i hi
      cases q : bi (a &&& b) i
      · rfl
      · have := g i (h i hi q)
        rw [hs_bi _ hi, q] at this; cases this
  by_cases g : a &&& b = 0
  · rw [if_pos g, if_pos (e.mp g)]
  · rw [if_neg g, if_neg (fun q => g (e.mpr q))]
theorem grF_20 {w : Int32} {n : Nat} (hn : n ≤ 20) (h : ∀ i, i < 32 → bi w i = true → i < n) : grF w 20 = grF w n := by
  have := grF_out (w := w) (n := n) (20 - n) (fun i h1 h2 => by
    rw [hs_bi _ (by omega)]
    cases q : bi w i
    · rfl
    · exact absurd (h i (by omega) q) (by omega))
  rw [show n + (20 - n) = 20 by omega] at this
  exact this
/-- each fable's parent was there before it -/
def Par (n : Nat) (fp : Nat → Int32) : Prop := ∀ k, k < n → fp k = -1 ∨ ∃ j, j < k ∧ fp k = nI j
theorem an_dn {n : Nat} {fp : Nat → Int32} (hn : n ≤ 20) (hp : Par n fp) {f : Nat} (hf : f < n) : ∀ k, (anS fp f k).2 = -1 ∨ ∃ j, (anS fp f k).2 = nI j ∧ j + k ≤ f
  | 0 => Or.inr ⟨f, rfl, Nat.le_refl _⟩
  | k + 1 => by
    rw [anS_succ]
    rcases an_dn hn hp hf k with h | ⟨j, h, hj⟩
    · rw [if_pos h]; exact Or.inl h
    · rw [if_neg (by rw [h]; exact nI_ne_m1 (by omega))]
      show fp (ix (anS fp f k).2) = -1 ∨ _
      rw [h, ix_nI (by omega)]
      rcases hp j (by omega) with g | ⟨i, hi, g⟩
      · exact Or.inl g
      · exact Or.inr ⟨i, g, by omega⟩
theorem an_end {n : Nat} {fp : Nat → Int32} (hn : n ≤ 20) (hp : Par n fp) {f : Nat} (hf : f < n) {q : Nat} (hq : f + 1 ≤ q) : anS fp f (f + 1) = anS fp f q := by
  refine anS_stop ?_ hq
  rcases an_dn hn hp hf (f + 1) with h | ⟨j, _, hj⟩
  · exact h
  · omega
theorem an_cong {n : Nat} {fp fp' : Nat → Int32} (hn : n ≤ 20) (hp : Par n fp) (he : ∀ k, k < n → fp' k = fp k) {f : Nat} (hf : f < n) : ∀ k, anS fp' f k = anS fp f k
  | 0 => rfl
  | k + 1 => by
    rw [anS_succ, anS_succ, an_cong hn hp he hf k]
    rcases an_dn hn hp hf k with h | ⟨j, h, hj⟩
    · rw [if_pos h, if_pos h]
    · have hj2 : fp' (ix (anS fp f k).2) = fp (ix (anS fp f k).2) := by rw [h, ix_nI (by omega)]; exact he j (by omega)
      rw [hj2]
theorem an_bits {n : Nat} {fp : Nat → Int32} (hn : n ≤ 20) (hp : Par n fp) {f : Nat} (hf : f < n) {i : Nat} (hi : i < 32) : ∀ k, bi (anS fp f k).1 i = true → i < n
  | 0 => fun h => by rw [show (anS fp f 0).1 = 0 from rfl, bi_0] at h; cases h
  | k + 1 => fun h => by
    rw [anS_succ] at h
    rcases an_dn hn hp hf k with g | ⟨j, g, hj⟩
    · rw [if_pos g] at h; exact an_bits hn hp hf hi k h
    · rw [if_neg (by rw [g]; exact nI_ne_m1 (by omega))] at h
      have h2 : bi ((anS fp f k).1 ||| (1 <<< ((anS fp f k).2 &&& 31))) i = true := h
      rw [g, bi_or, bi_bit (by omega) hi, Bool.or_eq_true] at h2
      rcases h2 with q | q
      · exact an_bits hn hp hf hi k q
      · have := of_decide_eq_true q; omega
/-- from a fable with a parent -/
theorem an_up {fp : Nat → Int32} {f j : Nat} (hf : f < 32) (h : fp f = nI j) : ∀ k, anS fp f (k + 1) = (((1 : Int32) <<< (nI f &&& 31)) ||| (anS fp j k).1, (anS fp j k).2)
  | 0 => by
    rw [anS_succ, if_neg (show ¬ (anS fp f 0).2 = -1 from nI_ne_m1 (by omega))]
    show ((0 : Int32) ||| (1 <<< (nI f &&& 31)), fp (ix (nI f))) = (1 <<< (nI f &&& 31) ||| (0 : Int32), nI j)
    rw [ix_nI (by omega), h]
    congr 1
    exact bi_ext fun i _ => by rw [bi_or, bi_or, bi_0]; simp
  | k + 1 => by
    rw [anS_succ, an_up hf h k, anS_succ]
    by_cases g : (anS fp j k).2 = -1
    · rw [if_pos g, if_pos g]
    · rw [if_neg g, if_neg g]
      show (1 <<< (nI f &&& 31) ||| (anS fp j k).1 ||| 1 <<< ((anS fp j k).2 &&& 31), fp (ix (anS fp j k).2)) = _
      congr 1
      exact bi_ext fun i _ => by rw [bi_or, bi_or, bi_or, bi_or, Bool.or_assoc]
theorem an_root {fp : Nat → Int32} {f : Nat} (hf : f < 32) (h : fp f = -1) (k : Nat) : anS fp f (k + 1) = ((1 : Int32) <<< (nI f &&& 31), -1) := by
  have h1 : anS fp f 1 = ((1 : Int32) <<< (nI f &&& 31), -1) := by
    rw [anS_succ, if_neg (show ¬ (anS fp f 0).2 = -1 from nI_ne_m1 (by omega))]
    show ((0 : Int32) ||| (1 <<< (nI f &&& 31)), fp (ix (nI f))) = _
    rw [ix_nI (by omega), h]
    congr 1
    exact bi_ext fun i _ => by rw [bi_or, bi_0]; simp
  rw [← anS_stop (k := 1) (q := k + 1) (by rw [h1]) (by omega), h1]
/-- what holds between calls -/
abbrev Inv (n : Nat) (fp fv fa lw lt : Nat → Int32) : Prop := (n ≤ 20) ∧ (Par n fp) ∧ (∀ f, f < n → ∀ i, i < 32 → bi (fv f) i = (decide (i < n) && decide (fp i = nI f))) ∧ (∀ f, f < n → fa f = (anS fp f 21).1) ∧ (∀ v, v < 6 → ∀ i, i < 32 → bi (lt v) i = true → i < n) ∧ (∀ a, a < 6 → ∀ b, b < 6 → bi (lw a) b = bi (lw b) a)
theorem Inv.hn {n : Nat} {fp fv fa lw lt : Nat → Int32} (I : Inv n fp fv fa lw lt) : n ≤ 20 := I.1
theorem Inv.par {n : Nat} {fp fv fa lw lt : Nat → Int32} (I : Inv n fp fv fa lw lt) : Par n fp := I.2.1
theorem Inv.var {n : Nat} {fp fv fa lw lt : Nat → Int32} (I : Inv n fp fv fa lw lt) : ∀ f, f < n → ∀ i, i < 32 → bi (fv f) i = (decide (i < n) && decide (fp i = nI f)) := I.2.2.1
theorem Inv.anc {n : Nat} {fp fv fa lw lt : Nat → Int32} (I : Inv n fp fv fa lw lt) : ∀ f, f < n → fa f = (anS fp f 21).1 := I.2.2.2.1
theorem Inv.tol {n : Nat} {fp fv fa lw lt : Nat → Int32} (I : Inv n fp fv fa lw lt) : ∀ v, v < 6 → ∀ i, i < 32 → bi (lt v) i = true → i < n := I.2.2.2.2.1
theorem Inv.sym {n : Nat} {fp fv fa lw lt : Nat → Int32} (I : Inv n fp fv fa lw lt) : ∀ a, a < 6 → ∀ b, b < 6 → bi (lw a) b = bi (lw b) a := I.2.2.2.2.2
theorem Inv.zero (fp fv fa : Nat → Int32) : Inv 0 fp fv fa (fun _ => 0) (fun _ => 0) := ⟨by omega, fun _ h => absurd h (Nat.not_lt_zero _), fun _ h => absurd h (Nat.not_lt_zero _), fun _ h => absurd h (Nat.not_lt_zero _), fun _ _ i _ h => (by rw [bi_0] at h; cases h), fun _ _ _ _ => by rw [bi_0, bi_0]⟩
theorem upd_at (f : Nat → Int32) (k : Nat) (x : Int32) : upd f k x k = x := if_pos rfl
theorem upd_ne (f : Nat → Int32) {k j : Nat} (x : Int32) (h : j ≠ k) : upd f k x j = f j := if_neg h
theorem m1_neg : (-1 : Int32) < 0 := by decide
theorem wrV_m1 (fv : Nat → Int32) (n : Nat) : wrV fv n (-1) = upd fv n 0 := if_pos m1_neg
theorem wrA_m1 (fa : Nat → Int32) (n : Nat) : wrA fa n (-1) = upd fa n ((1 : Int32) <<< (nI n &&& 31)) := if_pos m1_neg
theorem wrV_nI (fv : Nat → Int32) {n j : Nat} (hj : j < n) (hn : n ≤ 20) : wrV fv n (nI j) = upd (upd fv n 0) j (fv j ||| ((1 : Int32) <<< (nI n &&& 31))) := by
  unfold wrV
  rw [if_neg (nI_pos (by omega)), nI_clamp (by omega), upd_ne _ _ (by omega)]
theorem wrA_nI (fa : Nat → Int32) {n j : Nat} (hj : j < n) (hn : n ≤ 20) : wrA fa n (nI j) = upd (upd fa n ((1 : Int32) <<< (nI n &&& 31))) n (((1 : Int32) <<< (nI n &&& 31)) ||| fa j) := by
  unfold wrA
  rw [if_neg (nI_pos (by omega)), nI_clamp (by omega), upd_at, upd_ne _ _ (by omega)]
theorem par_upd {n : Nat} {fp : Nat → Int32} (hp : Par n fp) {pw : Int32} (h : pw = -1 ∨ ∃ j, j < n ∧ pw = nI j) : Par (n + 1) (upd fp n pw) := by
  intro k hk
  by_cases g : k = n
  · subst g; rw [upd_at]; exact h
  · rw [upd_ne _ _ g]; exact hp k (by omega)
theorem tol_up {n : Nat} {lt : Nat → Int32} (h : ∀ v, v < 6 → ∀ i, i < 32 → bi (lt v) i = true → i < n) : ∀ v, v < 6 → ∀ i, i < 32 → bi (lt v) i = true → i < n + 1 := fun v hv i hi g => Nat.lt_succ_of_lt (h v hv i hi g)
theorem Inv.root {n : Nat} {fp fv fa lw lt : Nat → Int32} (I : Inv n fp fv fa lw lt) (hn : n < 20) : Inv (n + 1) (upd fp n (-1)) (wrV fv n (-1)) (wrA fa n (-1)) lw lt := by
  refine ⟨by omega, par_upd I.par (Or.inl rfl), ?_, ?_, tol_up I.tol, I.sym⟩
  · intro f hf i hi
    rw [wrV_m1]
    have e2 : decide (upd fp n (-1) n = nI f) = false := decide_eq_false (by rw [upd_at]; exact fun e => nI_ne_m1 (show f < 2 ^ 31 by omega) e.symm)
    by_cases g : f = n
    · subst g
      rw [upd_at, bi_0]
      by_cases q : i = f
      · subst q; rw [e2]; simp
      · rw [upd_ne _ _ q]
        by_cases r : i < f
        · have : ¬ fp i = nI f := by
            rcases I.par i r with h | ⟨j, hj, h⟩
            · rw [h]; exact fun e => nI_ne_m1 (show f < 2 ^ 31 by omega) e.symm
            · rw [h, nI_eq (by omega) (by omega)]; omega
          simp [this]
        · have : ¬ i < f + 1 := by omega
          simp [this]
    · rw [upd_ne _ _ g, I.var f (by omega) i hi]
      by_cases q : i = n
      · subst q; rw [e2]; simp
      · rw [upd_ne _ _ q, decide_eq_decide.mpr (show i < n ↔ i < n + 1 by omega)]
  · intro f hf
    rw [wrA_m1]
    by_cases g : f = n
    · subst g
      rw [upd_at, an_root (by omega) (upd_at _ _ _)]
    · rw [upd_ne _ _ g, I.anc f (by omega), an_cong I.hn I.par (fun k hk => upd_ne _ _ (by omega)) (by omega)]
theorem Inv.child {n : Nat} {fp fv fa lw lt : Nat → Int32} (I : Inv n fp fv fa lw lt) (hn : n < 20) {j : Nat} (hj : j < n) : Inv (n + 1) (upd fp n (nI j)) (wrV fv n (nI j)) (wrA fa n (nI j)) lw lt := by
  refine ⟨by omega, par_upd I.par (Or.inr ⟨j, hj, rfl⟩), ?_, ?_, tol_up I.tol, I.sym⟩
  · intro f hf i hi
    rw [wrV_nI fv hj I.hn]
    have e2 : decide (upd fp n (nI j) n = nI f) = decide (j = f) := by rw [upd_at]; exact decide_eq_decide.mpr (nI_eq (by omega) (by omega))
    by_cases g : f = j
    · subst g
      rw [upd_at, bi_or, I.var f hj i hi, bi_bit (by omega) hi]
      by_cases q : i = n
      · subst q; rw [e2]; simp
      · rw [upd_ne _ _ q, show decide (i < n) = decide (i < n + 1) from decide_eq_decide.mpr (by omega)]; simp [q]
    · rw [upd_ne _ _ g]
      by_cases g2 : f = n
      · subst g2
        rw [upd_at, bi_0]
        by_cases q : i = f
        · subst q; rw [e2]; simp; omega
        · rw [upd_ne _ _ q]
          by_cases r : i < f
          · have : ¬ fp i = nI f := by
              rcases I.par i r with h | ⟨k, hk, h⟩
              · rw [h]; exact fun e => nI_ne_m1 (show f < 2 ^ 31 by omega) e.symm
              · rw [h, nI_eq (by omega) (by omega)]; omega
            simp [this]
          · have : ¬ i < f + 1 := by omega
            simp [this]
      · rw [upd_ne _ _ g2, I.var f (by omega) i hi]
        by_cases q : i = n
        · subst q
          rw [e2]
          have : ¬ j = f := fun e => g e.symm
          simp [this]
        · rw [upd_ne _ _ q, decide_eq_decide.mpr (show i < n ↔ i < n + 1 by omega)]
  · intro f hf
    rw [wrA_nI fa hj I.hn]
    by_cases g : f = n
    · subst g
      rw [upd_at, an_up (by omega) (upd_at _ _ _) 20]
      show _ ||| fa j = _ ||| (anS (upd fp f (nI j)) j 20).1
      rw [I.anc j hj, an_cong I.hn I.par (fun k hk => upd_ne _ _ (by omega)) hj, ← an_end I.hn I.par hj (show j + 1 ≤ 21 by omega), an_end I.hn I.par hj (show j + 1 ≤ 20 by omega)]
    · rw [upd_ne _ _ g, upd_ne _ _ g, I.anc f (by omega), an_cong I.hn I.par (fun k hk => upd_ne _ _ (by omega)) (by omega)]
theorem anc_bits {n : Nat} {fp fv fa lw lt : Nat → Int32} (I : Inv n fp fv fa lw lt) {a b : Nat} (ha : a < n) (hb : b < n) : ∀ i, i < 32 → bi (fa a &&& fa b) i = true → i < n := fun i hi h => by
  rw [bi_and, Bool.and_eq_true, I.anc a ha] at h
  exact an_bits I.hn I.par ha hi 21 h.1
theorem Inv.turn {n : Nat} {fp fv fa lw lt : Nat → Int32} (I : Inv n fp fv fa lw lt) {a b : Nat} (ha : a < 6) (hb : b < 6) (hab : a ≠ b) : Inv n fp fv fa (turnW lw a b) lt := by
  refine ⟨I.hn, I.par, I.var, I.anc, I.tol, ?_⟩
  have key : ∀ x, x < 6 → ∀ y, y < 6 → bi (turnW lw a b x) y = (bi (lw x) y ^^ (decide (x = a ∧ y = b) || decide (x = b ∧ y = a))) := by
    intro x hx y hy
    unfold turnW tu
    by_cases g : x = b
    · subst g
      rw [upd_at, bi_xor, bi_bit (by omega) (by omega), upd_ne _ _ (Ne.symm hab)]
      have : ¬ x = a := Ne.symm hab
      simp [this]
    · rw [upd_ne _ _ g]
      by_cases g2 : x = a
      · subst g2
        rw [upd_at, bi_xor, bi_bit (by omega) (by omega)]
        simp [g]
      · rw [upd_ne _ _ g2]; simp [g, g2]
  intro x hx y hy
  rw [key x hx y hy, key y hy x hx, I.sym x hx y hy]
  congr 1
  rw [Bool.or_comm, show decide (x = b ∧ y = a) = decide (y = a ∧ x = b) from decide_eq_decide.mpr And.comm, show decide (x = a ∧ y = b) = decide (y = b ∧ x = a) from decide_eq_decide.mpr And.comm]
theorem Inv.told {n : Nat} {fp fv fa lw lt lt' : Nat → Int32} (I : Inv n fp fv fa lw lt) (h : ∀ v, v < 6 → ∀ i, i < 32 → bi (lt' v) i = true → i < n) : Inv n fp fv fa lw lt' := ⟨I.hn, I.par, I.var, I.anc, h, I.sym⟩
theorem tol_upd {n : Nat} {lt : Nat → Int32} (h : ∀ v, v < 6 → ∀ i, i < 32 → bi (lt v) i = true → i < n) {w : Nat} {x : Int32} (hx : ∀ i, i < 32 → bi x i = true → i < n) : ∀ v, v < 6 → ∀ i, i < 32 → bi (upd lt w x v) i = true → i < n := by
  intro v hv i hi
  by_cases g : v = w
  · subst g; rw [upd_at]; exact hx i hi
  · rw [upd_ne _ _ g]; exact h v hv i hi
theorem or_bits {n f : Nat} {x : Int32} (hf : f < n) (hn : n ≤ 20) (h : ∀ i, i < 32 → bi x i = true → i < n) : ∀ i, i < 32 → bi (x ||| ((1 : Int32) <<< (nI f &&& 31))) i = true → i < n := fun i hi g => by
  rw [bi_or, bi_bit (by omega) hi, Bool.or_eq_true] at g
  rcases g with q | q
  · exact h i hi q
  · have := of_decide_eq_true q; omega
theorem tu_off {x : Int32} {f : Nat} (hf : f < 32) (h : hs x (nI f) = true) : tu x (nI f) = x &&& (((1 : Int32) <<< (nI f &&& 31)) ^^^ (-1)) := bi_ext fun i hi => by
  rw [hs_bi _ hf] at h
  unfold tu
  rw [bi_xor, bi_and, bi_not _ hi, bi_bit hf hi]
  by_cases g : i = f
  · subst g; simp [h]
  · simp [g]
theorem tu_bits {n f : Nat} {x : Int32} (hf : f < 32) (g : hs x (nI f) = true) (h : ∀ i, i < 32 → bi x i = true → i < n) : ∀ i, i < 32 → bi (tu x (nI f)) i = true → i < n := fun i hi q => by
  rw [tu_off hf g, bi_and, Bool.and_eq_true] at q
  exact h i hi q.1
theorem tu_swap {B : Int32} {x y : Nat} (hx : x < 32) (hy : y < 32) (h1 : hs B (nI x) = true) (h2 : ¬ hs B (nI y) = true) : tu (tu B (nI x)) (nI y) = (B &&& (((1 : Int32) <<< (nI x &&& 31)) ^^^ (-1))) ||| ((1 : Int32) <<< (nI y &&& 31)) := bi_ext fun i hi => by
  rw [hs_bi _ hx] at h1
  rw [hs_bi _ hy] at h2
  unfold tu
  rw [bi_xor, bi_xor, bi_or, bi_and, bi_not _ hi, bi_bit hx hi, bi_bit hy hi]
  by_cases g : i = x
  · subst g
    by_cases q : i = y
    · subst q; exact absurd h1 h2
    · simp [h1, q]
  · by_cases q : i = y
    · subst q
      have : bi B i = false := by cases r : bi B i; rfl; exact absurd r h2
      simp [g, this]
    · simp [g, q]
theorem ab_code {n : Nat} {fp fv fa lw lt : Nat → Int32} (I : Inv n fp fv fa lw lt) (w x : Int32) (fb : Nat → Int32) : cdABm w x n fb fp = cdAB w x n fb fv := by
  unfold cdABm cdAB
  by_cases h : (fin w n && fin x 12) = true
  · rw [if_pos h, if_pos h]
    obtain ⟨f, hf, rfl⟩ := fin_ix (Bool.and_eq_true_iff.mp h).1 (by have := I.hn; omega)
    rw [ix_nI (by have := I.hn; omega)]
    have e : (chS fp f n ≤ 0) ↔ (fv f = 0) := by
      rw [chS_ct, eq0_bi, show (0 : Int32) = nI 0 from rfl, nI_leI (by have := fb_ct_le (fun i => decide (fp i = nI f)) n; have := I.hn; omega) (by omega)]
      constructor
      · intro g i hi
        rw [I.var f hf i hi]
        by_cases q : i < n
        · have := fb_ct_zero.mp (Nat.le_zero.mp g) i q
          simp only [this, Bool.and_false]
        · simp [q]
      · intro g
        refine Nat.le_of_eq (fb_ct_zero.mpr fun i hi => ?_)
        have := g i (by have := I.hn; omega)
        rw [I.var f hf i (by have := I.hn; omega)] at this
        simpa [hi] using this
    by_cases g : hs (fb f) x = true
    · rw [if_pos g, if_pos g]
    · rw [if_neg g, if_neg g]
      by_cases q : fv f = 0
      · rw [if_pos q, if_pos (e.mpr q)]
      · rw [if_neg q, if_neg (fun r => q (e.mp r))]
  · rw [if_neg h, if_neg h]
