/-! numbers: the bits of a number, counted in two ways -/
theorem nand (a b : Nat) : nI a &&& nI b = nI (a &&& b) := by
  apply Int32.toBitVec_inj.1
  show BitVec.ofNat 32 a &&& BitVec.ofNat 32 b = BitVec.ofNat 32 (a &&& b)
  apply BitVec.eq_of_getLsbD_eq
  intro i hi
  simp [hi]
theorem bi_nI (a i : Nat) (hi : i < 32) : bi (nI a) i = a.testBit i := by
  show (BitVec.ofNat 32 a).getLsbD i = a.testBit i
  rw [BitVec.getLsbD_ofNat]
  simp [hi]
def cnt (a n : Nat) : Nat := fb_ct (fun i => a.testBit i) n
theorem pcN_nI (a : Nat) : pcN (nI a) = cnt a 32 := fb_ct_cong (fun k hk => bi_nI a k hk)
theorem ex_nI (x : Int32) : ∃ a : Nat, a < 2 ^ 32 ∧ x = nI a := ⟨x.toBitVec.toNat, x.toBitVec.isLt, by
  apply Int32.toBitVec_inj.1
  show x.toBitVec = BitVec.ofNat 32 x.toBitVec.toNat
  rw [BitVec.ofNat_toNat, BitVec.setWidth_eq]⟩
theorem ct_peel (p : Nat → Bool) : ∀ n, fb_ct p (n + 1) = (if p 0 then 1 else 0) + fb_ct (fun k => p (k + 1)) n
  | 0 => by simp [fb_ct]
  | n + 1 => by rw [fb_ct_succ, ct_peel p n, fb_ct_succ (fun k => p (k + 1)) n]; omega
theorem cnt_peel (a n : Nat) : cnt a (n + 1) = (if a % 2 = 1 then 1 else 0) + cnt (a / 2) n := by
  show fb_ct (fun i => a.testBit i) (n + 1) = _
  rw [ct_peel]
  have e : (fun k => a.testBit (k + 1)) = (fun k => (a / 2).testBit k) := funext fun k => Nat.testBit_add_one a k
  rw [e]
  simp only [Nat.testBit_zero, decide_eq_true_eq]
  rfl
theorem cnt_low : ∀ (n a : Nat), a < 2 ^ n → a ≠ 0 → cnt (a &&& (a - 1)) n + 1 = cnt a n
  | 0, a, h, h0 => absurd (show a = 0 by omega) h0
  | n + 1, a, h, h0 => by
    rw [cnt_peel, cnt_peel]
    have hdiv : (a &&& (a - 1)) / 2 = (a / 2) &&& ((a - 1) / 2) := Nat.eq_of_testBit_eq fun i => by rw [← Nat.testBit_add_one, Nat.testBit_and, Nat.testBit_and, Nat.testBit_add_one, Nat.testBit_add_one]
    have hmod : (a &&& (a - 1)) % 2 = 0 := by
      have h1 : (a &&& (a - 1)).testBit 0 = false := by
        rw [Nat.testBit_and, Nat.testBit_zero, Nat.testBit_zero]
        rcases Nat.mod_two_eq_zero_or_one a with e | e
        · simp [e]
        · have : (a - 1) % 2 = 0 := by omega
          simp [this]
      rw [Nat.testBit_zero] at h1
      have := of_decide_eq_false h1
      omega
    rw [hdiv, hmod]
    rcases Nat.mod_two_eq_zero_or_one a with e | e
    · have e2 : (a - 1) / 2 = a / 2 - 1 := by omega
      have ih := cnt_low n (a / 2) (by omega) (by omega)
      rw [e2, e]
      simp only [if_neg (show ¬ (0 : Nat) = 1 by decide)]
      omega
    · have e2 : (a - 1) / 2 = a / 2 := by omega
      rw [e2, Nat.and_self, e]
      simp only [if_neg (show ¬ (0 : Nat) = 1 by decide), if_true]
      omega
theorem pcN_0 : pcN 0 = 0 := by decide +kernel
theorem pcN_low {x : Int32} (h : ¬ x = 0) : pcN (x &&& (x - 1)) + 1 = pcN x := by
  obtain ⟨a, ha, rfl⟩ := ex_nI x
  have h0 : a ≠ 0 := fun e => h (by rw [e]; rfl)
  have h1 : (1 : Int32) = nI 1 := rfl
  rw [h1, pk_sub (by omega), nand, pcN_nI, pcN_nI]
  exact cnt_low 32 a ha h0
/-- a number by its bytes: & byte by byte -/
theorem and_cat {i : Nat} {a b c d : Nat} (hb : b < 2 ^ i) (hd : d < 2 ^ i) : (2 ^ i * a + b) &&& (2 ^ i * c + d) = 2 ^ i * (a &&& c) + (b &&& d) := by
  have hbd : b &&& d < 2 ^ i := Nat.lt_of_le_of_lt Nat.and_le_left hb
  apply Nat.eq_of_testBit_eq
  intro j
  rw [Nat.testBit_and, Nat.testBit_two_pow_mul_add a hb, Nat.testBit_two_pow_mul_add c hd, Nat.testBit_two_pow_mul_add (a &&& c) hbd]
  by_cases h : j < i
  · simp [h, Nat.testBit_and]
  · simp [h, Nat.testBit_and]
theorem and4 {a0 a1 a2 a3 : Nat} (m : Nat) (h0 : a0 < 256) (h1 : a1 < 256) (h2 : a2 < 256) (h3 : a3 < 256) (hm : m < 256) : (a0 + 256 * a1 + 65536 * a2 + 16777216 * a3) &&& (16843009 * m) = (a0 &&& m) + 256 * (a1 &&& m) + 65536 * (a2 &&& m) + 16777216 * (a3 &&& m) := by
  have e1 : a0 + 256 * a1 + 65536 * a2 + 16777216 * a3 = 2 ^ 8 * (2 ^ 8 * (2 ^ 8 * a3 + a2) + a1) + a0 := by omega
  have e2 : 16843009 * m = 2 ^ 8 * (2 ^ 8 * (2 ^ 8 * m + m) + m) + m := by omega
  rw [e1, e2, and_cat h0 hm, and_cat h1 hm, and_cat h2 hm]
  omega
def t1 (r : Nat) : Nat := r - ((r / 2) &&& 85)
def t2 (r : Nat) : Nat := (t1 r &&& 51) + ((t1 r / 4) &&& 51)
def t3 (r : Nat) : Nat := (t2 r + t2 r / 16) &&& 15
theorem t_a : ∀ r, r < 256 → ∀ c, c < 2 → ((r / 2 + 128 * c) &&& 85) = ((r / 2) &&& 85) ∧ ((r / 2) &&& 85) ≤ r := by decide +kernel
theorem t_b : ∀ r, r < 256 → ∀ c, c < 4 → ((t1 r / 4 + 64 * c) &&& 51) = ((t1 r / 4) &&& 51) ∧ t1 r < 256 := by decide +kernel
theorem t_c : ∀ r, r < 256 → t2 r ≤ 68 ∧ t2 r % 16 ≤ 4 ∧ t3 r = cnt r 8 ∧ t3 r ≤ 8 := by decide +kernel
theorem t_d : ∀ r, r < 256 → ∀ c, c < 5 → ((t2 r + t2 r / 16 + 16 * c) &&& 15) = t3 r := by decide +kernel
theorem cnt_byte (a n : Nat) : ∀ k, cnt a (k + n) = cnt (a % 2 ^ k) k + cnt (a / 2 ^ k) n := by
  intro k
  show fb_ct (fun i => a.testBit i) (k + n) = _
  rw [fb_ct_split]
  congr 1
  · refine fb_ct_cong fun j hj => ?_
    show a.testBit j = (a % 2 ^ k).testBit j
    rw [Nat.testBit_mod_two_pow]; simp [hj]
  · refine fb_ct_cong fun j _ => ?_
    show a.testBit (k + j) = (a / 2 ^ k).testBit j
    rw [Nat.testBit_div_two_pow, Nat.add_comm]
def bcN (a : Nat) : Nat :=
  let x1 := a - ((a / 2) &&& 1431655765)
  let x2 := (x1 &&& 858993459) + ((x1 / 4) &&& 858993459)
  let x3 := (x2 + x2 / 16) &&& 252645135
  let x4 := x3 + x3 / 256
  let x5 := x4 + x4 / 65536
  x5 &&& 63
theorem bcN_cnt {a : Nat} (ha : a < 2 ^ 32) : bcN a = cnt a 32 := by
  obtain ⟨r0, r1, r2, r3, g0, g1, g2, g3, rfl⟩ : ∃ r0 r1 r2 r3 : Nat, r0 < 256 ∧ r1 < 256 ∧ r2 < 256 ∧ r3 < 256 ∧ a = r0 + 256 * r1 + 65536 * r2 + 16777216 * r3 := ⟨a % 256, a / 256 % 256, a / 65536 % 256, a / 16777216, by omega, by omega, by omega, by omega, by omega⟩
  have s1 : (r0 + 256 * r1 + 65536 * r2 + 16777216 * r3) - (((r0 + 256 * r1 + 65536 * r2 + 16777216 * r3) / 2) &&& 1431655765) = t1 r0 + 256 * t1 r1 + 65536 * t1 r2 + 16777216 * t1 r3 := by
    have e : (r0 + 256 * r1 + 65536 * r2 + 16777216 * r3) / 2 = (r0 / 2 + 128 * (r1 % 2)) + 256 * (r1 / 2 + 128 * (r2 % 2)) + 65536 * (r2 / 2 + 128 * (r3 % 2)) + 16777216 * (r3 / 2 + 128 * 0) := by omega
    rw [e, show 1431655765 = 16843009 * 85 from rfl, and4 85 (by omega) (by omega) (by omega) (by omega) (by omega), (t_a r0 g0 _ (by omega)).1, (t_a r1 g1 _ (by omega)).1, (t_a r2 g2 _ (by omega)).1, (t_a r3 g3 _ (by omega)).1]
    have k0 := (t_a r0 g0 0 (by omega)).2
    have k1 := (t_a r1 g1 0 (by omega)).2
    have k2 := (t_a r2 g2 0 (by omega)).2
    have k3 := (t_a r3 g3 0 (by omega)).2
    unfold t1
    omega
  have b0 := (t_b r0 g0 0 (by omega)).2
  have b1 := (t_b r1 g1 0 (by omega)).2
  have b2 := (t_b r2 g2 0 (by omega)).2
  have b3 := (t_b r3 g3 0 (by omega)).2
  have s2 : ((t1 r0 + 256 * t1 r1 + 65536 * t1 r2 + 16777216 * t1 r3) &&& 858993459) + (((t1 r0 + 256 * t1 r1 + 65536 * t1 r2 + 16777216 * t1 r3) / 4) &&& 858993459) = t2 r0 + 256 * t2 r1 + 65536 * t2 r2 + 16777216 * t2 r3 := by
    have e : (t1 r0 + 256 * t1 r1 + 65536 * t1 r2 + 16777216 * t1 r3) / 4 = (t1 r0 / 4 + 64 * (t1 r1 % 4)) + 256 * (t1 r1 / 4 + 64 * (t1 r2 % 4)) + 65536 * (t1 r2 / 4 + 64 * (t1 r3 % 4)) + 16777216 * (t1 r3 / 4 + 64 * 0) := by omega
    rw [e, show 858993459 = 16843009 * 51 from rfl, and4 51 (by omega) (by omega) (by omega) (by omega) (by omega), and4 51 (by omega) (by omega) (by omega) (by omega) (by omega), (t_b r0 g0 _ (by omega)).1, (t_b r1 g1 _ (by omega)).1, (t_b r2 g2 _ (by omega)).1, (t_b r3 g3 _ (by omega)).1]
    unfold t2
    omega
  obtain ⟨c0, d0, p0, q0⟩ := t_c r0 g0
  obtain ⟨c1, d1, p1, q1⟩ := t_c r1 g1
  obtain ⟨c2, d2, p2, q2⟩ := t_c r2 g2
  obtain ⟨c3, d3, p3, q3⟩ := t_c r3 g3
  have s3 : ((t2 r0 + 256 * t2 r1 + 65536 * t2 r2 + 16777216 * t2 r3) + (t2 r0 + 256 * t2 r1 + 65536 * t2 r2 + 16777216 * t2 r3) / 16) &&& 252645135 = t3 r0 + 256 * t3 r1 + 65536 * t3 r2 + 16777216 * t3 r3 := by
    have e : (t2 r0 + 256 * t2 r1 + 65536 * t2 r2 + 16777216 * t2 r3) + (t2 r0 + 256 * t2 r1 + 65536 * t2 r2 + 16777216 * t2 r3) / 16 = (t2 r0 + t2 r0 / 16 + 16 * (t2 r1 % 16)) + 256 * (t2 r1 + t2 r1 / 16 + 16 * (t2 r2 % 16)) + 65536 * (t2 r2 + t2 r2 / 16 + 16 * (t2 r3 % 16)) + 16777216 * (t2 r3 + t2 r3 / 16 + 16 * 0) := by omega
    rw [e, show 252645135 = 16843009 * 15 from rfl, and4 15 (by omega) (by omega) (by omega) (by omega) (by omega), t_d r0 g0 _ (by omega), t_d r1 g1 _ (by omega), t_d r2 g2 _ (by omega), t_d r3 g3 _ (by omega)]
  have hc : cnt (r0 + 256 * r1 + 65536 * r2 + 16777216 * r3) 32 = t3 r0 + t3 r1 + t3 r2 + t3 r3 := by
    rw [show 32 = 8 + 24 from rfl, cnt_byte, show 24 = 8 + 16 from rfl, cnt_byte, show 16 = 8 + 8 from rfl, cnt_byte, p0, p1, p2, p3]
    have e0 : (r0 + 256 * r1 + 65536 * r2 + 16777216 * r3) % 2 ^ 8 = r0 := by omega
    have e1 : (r0 + 256 * r1 + 65536 * r2 + 16777216 * r3) / 2 ^ 8 = r1 + 256 * r2 + 65536 * r3 := by omega
    have e2 : (r1 + 256 * r2 + 65536 * r3) % 2 ^ 8 = r1 := by omega
    have e3 : (r1 + 256 * r2 + 65536 * r3) / 2 ^ 8 = r2 + 256 * r3 := by omega
    have e4 : (r2 + 256 * r3) % 2 ^ 8 = r2 := by omega
    have e5 : (r2 + 256 * r3) / 2 ^ 8 = r3 := by omega
    rw [e0, e1, e2, e3, e4, e5]
    omega
  rw [hc]
  show (((_ &&& 252645135) + (_ &&& 252645135) / 256) + ((_ &&& 252645135) + (_ &&& 252645135) / 256) / 65536) &&& 63 = _
  rw [s1, s2, s3]
  have hm : ∀ z : Nat, z &&& 63 = z % 64 := fun z => Nat.and_two_pow_sub_one_eq_mod z 6
  rw [hm]
  generalize t3 r0 = z0 at q0 ⊢
  generalize t3 r1 = z1 at q1 ⊢
  generalize t3 r2 = z2 at q2 ⊢
  generalize t3 r3 = z3 at q3 ⊢
  have f1 : (z0 + 256 * z1 + 65536 * z2 + 16777216 * z3) / 256 = z1 + 256 * z2 + 65536 * z3 := by omega
  rw [f1]
  have f2 : (z0 + 256 * z1 + 65536 * z2 + 16777216 * z3 + (z1 + 256 * z2 + 65536 * z3)) / 65536 = z2 + z3 + 256 * z3 := by omega
  rw [f2]
  have f3 : z0 + 256 * z1 + 65536 * z2 + 16777216 * z3 + (z1 + 256 * z2 + 65536 * z3) + (z2 + z3 + 256 * z3) = (z0 + z1 + z2 + z3) + 64 * (4 * z1 + 4 * z2 + 1024 * z2 + 1024 * z3 + 262144 * z3 + 4 * z3) := by omega
  rw [f3, Nat.add_mul_mod_self_left]
  exact Nat.mod_eq_of_lt (by omega)
def bcI (w : Int32) : Int32 :=
  let ush := fun (x s : Int32) => (x.toUInt32 >>> (Int32.toUInt32 s &&& Int32.toUInt32 31)).toInt32
  let x1 := w - (ush w 1 &&& 1431655765)
  let x2 := (x1 &&& 858993459) + (ush x1 2 &&& 858993459)
  let x3 := (x2 + ush x2 4) &&& 252645135
  let x4 := x3 + ush x3 8
  let x5 := x4 + ush x4 16
  x5 &&& 63
theorem and_lt {a b n : Nat} (h : a < n) : a &&& b < n := Nat.lt_of_le_of_lt Nat.and_le_left h
theorem bcI_pc (w : Int32) : bcI w = pc w := by
  obtain ⟨a, ha, rfl⟩ := ex_nI w
  have l1 : (1431655765 : Int32) = nI 1431655765 := rfl
  have l2 : (858993459 : Int32) = nI 858993459 := rfl
  have l3 : (252645135 : Int32) = nI 252645135 := rfl
  have l4 : (63 : Int32) = nI 63 := rfl
  have h1 : a - ((a / 2) &&& 1431655765) < 2 ^ 32 := by omega
  have hle : ((a / 2) &&& 1431655765) ≤ a := Nat.le_trans Nat.and_le_left (by omega)
  show _ = nI (pcN (nI a))
  rw [pcN_nI, ← bcN_cnt ha]
  have e1 : nI a - (((nI a).toUInt32 >>> (Int32.toUInt32 1 &&& Int32.toUInt32 31)).toInt32 &&& 1431655765) = nI (a - ((a / 2) &&& 1431655765)) := by
    rw [l1, pk_ushrN ha 1 1 (by decide), nand]
    exact pk_sub (by simpa using hle)
  generalize hx1 : a - ((a / 2) &&& 1431655765) = x1 at e1 h1
  have e2 : (nI x1 &&& 858993459) + (((nI x1).toUInt32 >>> (Int32.toUInt32 2 &&& Int32.toUInt32 31)).toInt32 &&& 858993459) = nI ((x1 &&& 858993459) + ((x1 / 4) &&& 858993459)) := by
    rw [l2, pk_ushrN h1 2 2 (by decide), nand, nand, nI_add]
  have h2 : (x1 &&& 858993459) + ((x1 / 4) &&& 858993459) < 2 ^ 32 := by
    have g1 : x1 &&& 858993459 ≤ 858993459 := Nat.and_le_right
    have g2 : (x1 / 4) &&& 858993459 ≤ 858993459 := Nat.and_le_right
    omega
  generalize hx2 : (x1 &&& 858993459) + ((x1 / 4) &&& 858993459) = x2 at e2 h2
  have e3 : (nI x2 + ((nI x2).toUInt32 >>> (Int32.toUInt32 4 &&& Int32.toUInt32 31)).toInt32) &&& 252645135 = nI ((x2 + x2 / 16) &&& 252645135) := by
    rw [l3, pk_ushrN h2 4 4 (by decide), nI_add, nand]
  have h3 : (x2 + x2 / 16) &&& 252645135 < 2 ^ 28 := Nat.lt_of_le_of_lt Nat.and_le_right (by omega)
  generalize hx3 : (x2 + x2 / 16) &&& 252645135 = x3 at e3 h3
  have e4 : nI x3 + ((nI x3).toUInt32 >>> (Int32.toUInt32 8 &&& Int32.toUInt32 31)).toInt32 = nI (x3 + x3 / 256) := by
    rw [pk_ushrN (show x3 < 2 ^ 32 by omega) 8 8 (by decide), nI_add]
  have h4 : x3 + x3 / 256 < 2 ^ 30 := by omega
  generalize hx4 : x3 + x3 / 256 = x4 at e4 h4
  have e5 : nI x4 + ((nI x4).toUInt32 >>> (Int32.toUInt32 16 &&& Int32.toUInt32 31)).toInt32 = nI (x4 + x4 / 65536) := by
    rw [pk_ushrN (show x4 < 2 ^ 32 by omega) 16 16 (by decide), nI_add]
  have e6 : bcN a = (x4 + x4 / 65536) &&& 63 := by
    show ((((_ + _) &&& 252645135) + _ / 256) + _ / 65536) &&& 63 = _
    rw [hx1, hx2, hx3, hx4]
  rw [e6]
  simp only [bcI]
  rw [e1, e2, e3, e4, e5, l4, nand]
