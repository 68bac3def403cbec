/-! the rows of the simulation's arrays alone; one more fable -/
section SIMR
variable {cI cZ cQ cW : ClassId} {u : Nat → Nat} {r : Nat → Nat → Nat} {n : Nat} {ss sl : Int32} {MM HH : Nat → Nat} {PP : Nat → Int32} {BB TB MB AB PB : Nat → Nat → Bool}
def simR (cI cZ : ClassId) (r : Nat → Nat → Nat) (n : Nat) (MM HH : Nat → Nat) (PP : Nat → Int32) (BB TB MB AB PB : Nat → Nat → Bool) : va_W :=
  (sm_rows 20 (r 2) (fun f => .inl (cZ, 6, .inl (rw1 (TB f)))) ++ (sm_rows 6 (r 3) (fun v => .inl (cZ, 10, .inl (rw1 (MB v)))) ++ (sm_rows 6 (r 4) (fun v => .inl (cZ, 12, .inl (rw1 (AB v)))) ++ (sm_rows 6 (r 5) (fun v => .inl (cZ, 6, .inl (rw1 (PB v)))) ++ (sm_rows n (r 0) (fun k => .inl (cI, 3, .inl (fr (MM k) (HH k) (PP k)))) ++ sm_rows n (r 1) (fun k => .inl (cZ, 12, .inl (rw1 (BB k)))))))))
theorem sr_F {k : Nat} (h : k < n) : (simR cI cZ r n MM HH PP BB TB MB AB PB)[k + 6 + 6 + 6 + 20]? = some (r 0 k, .inl (cI, 3, .inl (fr (MM k) (HH k) (PP k)))) := ga sm_len (ga sm_len (ga sm_len (ga sm_len (gb (sm_get h)))))
theorem sr_B {k : Nat} (h : k < n) : (simR cI cZ r n MM HH PP BB TB MB AB PB)[k + n + 6 + 6 + 6 + 20]? = some (r 1 k, .inl (cZ, 12, .inl (rw1 (BB k)))) := ga sm_len (ga sm_len (ga sm_len (ga sm_len (ga sm_len (sm_get h)))))
theorem fr_upd (a b c : Int32) {m h : Nat} (ha : a = nI m) (hb : b = nI h) : upd (upd (upd (fun _ => 0) 0 a) 1 b) 2 c = fr m h c := by
  subst ha hb
  funext j
  match j with
  | 0 => rfl
  | 1 => rfl
  | 2 => rfl
  | j + 3 => simp [upd, fr]
theorem sm_more {L q : Nat} {r : Nat → Nat} {x x' : Nat → va_E} {e : va_E} (hx : x' = fun i => if i = L then e else x i) : sm_rows (L + 1) (upA r L q) x' = sm_rows L r x ++ [(q, e)] := by
  rw [hx]; exact sm_push.symm
theorem up_ref {L q : Nat} {r : Nat → Nat} : va_up (sm_ref L r) L (some q) = sm_ref (L + 1) (upA r L q) := by
  funext i
  unfold sm_ref upA
  by_cases h : i = L
  · subst h; rw [va_up_self, if_pos (Nat.lt_succ_self i), if_pos rfl]
  · rw [va_up_ne _ _ h, if_neg h]
    by_cases g : i < L
    · rw [if_pos g, if_pos (by omega)]
    · rw [if_neg g, if_neg (by omega)]
/-- the rows of one more fable, joined in -/
def rAdd (r : Nat → Nat → Nat) (n q1 q2 : Nat) : Nat → Nat → Nat := upA (upA r 0 (upA (r 0) n q1)) 1 (upA (r 1) n q2)
theorem sw_add {q1 q2 mo h : Nat} {p : Int32} {F : Nat → Bool} {E : va_W} : ((q2, .inl (cZ, 12, .inl (rw1 F))) :: (q1, .inl (cI, 3, .inl (fr mo h p))) :: (E ++ ([(u 0, .inr (3, [.int (nI (n + 1)), .int ss, .int sl, .ref (u 1), .ref (u 2), .ref (u 3), .ref (u 4), .ref (u 5), .ref (u 6)])), (u 1, .inl (cQ, 20, .inr (.inr (.inr (.inr (va_up (sm_ref n (r 0)) n (some q1))))))), (u 2, .inl (cW, 20, .inr (.inr (.inr (.inr (va_up (sm_ref n (r 1)) n (some q2))))))), (u 3, .inl (cW, 20, .inr (.inr (.inr (.inr (sm_ref 20 (r 2))))))), (u 4, .inl (cW, 6, .inr (.inr (.inr (.inr (sm_ref 6 (r 3))))))), (u 5, .inl (cW, 6, .inr (.inr (.inr (.inr (sm_ref 6 (r 4))))))), (u 6, .inl (cW, 6, .inr (.inr (.inr (.inr (sm_ref 6 (r 5)))))))] ++ simR cI cZ r n MM HH PP BB TB MB AB PB)) : va_W).Perm (E ++ simW cI cZ cQ cW u (rAdd r n q1 q2) (n + 1) ss sl (upA MM n mo) (upA HH n h) (upA PP n p) (upR BB n F) TB MB AB PB) := by
  have e1 : sm_rows (n + 1) (upA (r 0) n q1) (fun k => .inl (cI, 3, .inl (fr (upA MM n mo k) (upA HH n h k) (upA PP n p k)))) = sm_rows n (r 0) (fun k => .inl (cI, 3, .inl (fr (MM k) (HH k) (PP k)))) ++ [(q1, .inl (cI, 3, .inl (fr mo h p)))] := sm_more (by
    funext i
    unfold upA
    by_cases g : i = n <;> simp [g])
  have e2 : sm_rows (n + 1) (upA (r 1) n q2) (fun k => .inl (cZ, 12, .inl (rw1 (upR BB n F k)))) = sm_rows n (r 1) (fun k => .inl (cZ, 12, .inl (rw1 (BB k)))) ++ [(q2, .inl (cZ, 12, .inl (rw1 F)))] := sm_more (by
    funext i
    unfold upR
    by_cases g : i = n <;> simp [g])
  have r00 : rAdd r n q1 q2 0 = upA (r 0) n q1 := rfl
  have r01 : rAdd r n q1 q2 1 = upA (r 1) n q2 := rfl
  have r02 : rAdd r n q1 q2 2 = r 2 := rfl
  have r03 : rAdd r n q1 q2 3 = r 3 := rfl
  have r04 : rAdd r n q1 q2 4 = r 4 := rfl
  have r05 : rAdd r n q1 q2 5 = r 5 := rfl
  refine w_count (fun _ x => ?_)
  unfold simW simR
  rw [r00, r01, r02, r03, r04, r05, e1, e2, up_ref, up_ref]
  simp only [List.cons_append, List.nil_append, List.count_append, List.count_cons, List.count_nil]
  omega
end SIMR
/-! below -/
def bl (w : Int32) (d : Nat) : Nat := ix (w &&& 2147483647) % d
theorem bl_lt (w : Int32) {d : Nat} (hd : 0 < d) : bl w d < d := Nat.mod_lt _ hd
theorem and_nn (w : Int32) : ∃ j : Nat, j < 2 ^ 31 ∧ w &&& 2147483647 = nI j := by
  refine nI_of (fun h => ?_)
  have hb : bi (w &&& 2147483647) 31 = false := by
    rw [bi_and, show bi (2147483647 : Int32) 31 = false by decide +kernel, Bool.and_false]
  have : (w &&& 2147483647).toBitVec.msb = true := by
    have h1 : (w &&& 2147483647).toInt < 0 := Int32.lt_iff_toInt_lt.mp h
    rw [← Int32.toInt_toBitVec] at h1
    cases g : (w &&& 2147483647).toBitVec.msb
    · have := BitVec.toInt_nonneg_of_msb_false g
      omega
    · rfl
  rw [BitVec.msb_eq_getLsbD_last] at this
  have h2 : bi (w &&& 2147483647) 31 = true := this
  rw [hb] at h2; cases h2
theorem first_b {p : Nat → Bool} : ∀ d, 1 ≤ fb_ct p d → ∃ g, g < d ∧ p g = true ∧ ∀ j, j < g → p j = false
  | 0, h => absurd h (by show ¬ 1 ≤ 0; omega)
  | d + 1, h => by
    by_cases q : 1 ≤ fb_ct p d
    · obtain ⟨g, h1, h2⟩ := first_b d q
      exact ⟨g, by omega, h2⟩
    · have h0 : fb_ct p d = 0 := by omega
      rw [fb_ct_succ, h0] at h
      refine ⟨d, by omega, ?_, fun j hj => fb_ct_zero.mp h0 j hj⟩
      cases g : p d
      · rw [g] at h; simp at h
      · rfl
