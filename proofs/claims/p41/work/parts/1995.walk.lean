set_option maxRecDepth 100000 in
set_option maxHeartbeats 4000000 in
theorem whole_start {p : Program} {e : Env} {s : State} {m : MethodId} {below : List Frame} {meth : Method} {c : Code} (l : Launch) (hflags : l.flags = flags0) {b L : Nat} {xs : Nat → Int32} (hL : L ≤ 260) (C0 : lw_At p s m meth c b L xs) : W p l e room_1 s m #[Value.ref b] below meth c s.heap [] 0 0 (lw_Z below #[Value.ref b] s) (entryFrame m ([Value.ref b] : List Value).toArray 20) := by
  obtain ⟨D, cI, cZ, cQ, cW, hE⟩ := st_E l C0
  obtain ⟨hx, hb, hr, hml, hown, hts, hX, hbl, hlocks, hgv⟩ := C0
  have K : z_K p l s m #[Value.ref b] meth c (z_A [] s.heap.size) (z_A [] s.heap.size) D [(cI, .int), (cZ, .boolean), (cQ, .array .int), (cW, .array .boolean)] cL_law 20 (some .boolean) wsL_law "FableIndexLaw" := ⟨hx, hb, hml, hown, fun w h => hts w (wsL_law_in w h), hE.1, hr, hlocks, hE, fun q h => h, fun q h => Or.inr h⟩
  have hbA : ¬ (z_A [] s.heap.size) b := fun h => h.elim (fun h => nomatch h) (Nat.not_le.mpr hbl)
  have hSX : z_SX b s := ⟨L, xs, by omega, hX, hbl⟩
  have hz : Z p l e room_1 s m #[Value.ref b] below meth c D 20 (z_A [] s.heap.size) (z_A [] s.heap.size) (lw_Z below #[Value.ref b] s) [] [(0, .ref b)] 0 0 0 [] := by
    refine z_newO (C := RX2) (T := TX2) (N := 4) (ci := 2) K inlX2 tyX2 tyX2_ok rfl (by decide +kernel) (by decide +kernel) (by decide +kernel) [.null, .null, .null, .int 0] (fun j hj => by rcases (show j = 0 ∨ j = 1 ∨ j = 2 ∨ j = 3 by omega) with rfl | rfl | rfl | rfl <;> rfl) dL_law_0 (Nat.le_of_ble_eq_true rfl) (Nat.le_of_ble_eq_true rfl) (fun qX hqX => ?_)
    refine z_dup K dL_law_3 rfl ?_
    refine z_callI (wr := []) K (i_X2 l _ D cI cZ cQ cW qX) gL_law_X2_init rfl (by decide +kernel) (by decide +kernel) (by decide +kernel) rfl (by decide +kernel) dL_law_4 hqX 0 [] rfl rfl ⟨Nat.le_of_ble_eq_true rfl, Nat.le_of_ble_eq_true rfl⟩ ⟨Nat.le_of_ble_eq_true rfl, Nat.le_of_ble_eq_true rfl⟩ rfl (by decide) (by decide) rfl (Nat.le_of_ble_eq_true rfl) (fun bx hbx => ?_)
    have hall : ∀ x ∈ ([qX, (bx 0), (bx 3), (bx 4), (bx 5), (bx 6), (bx 7), (bx 8), (bx 1), (bx 9), (bx 10), (bx 11), (bx 12), (bx 13), (bx 14)] : List Nat), s.heap.size ≤ x := fun x hx => (hbx x (show x ∈ ([qX, (bx 0), (bx 3), (bx 4), (bx 5), (bx 6), (bx 7), (bx 8), (bx 1), (bx 9), (bx 10), (bx 11), (bx 12), (bx 13), (bx 14)] : List Nat) ++ [(bx 2), (bx 15), (bx 16), (bx 17), (bx 18), (bx 19), (bx 20)] from List.mem_append_left _ hx)).elim (fun e => e ▸ hqX) id
    have hbS : b ∉ ([qX, (bx 0), (bx 3), (bx 4), (bx 5), (bx 6), (bx 7), (bx 8), (bx 1), (bx 9), (bx 10), (bx 11), (bx 12), (bx 13), (bx 14)] : List Nat) := fun h => by have := hall b h; omega
    refine z_astore_n (lv' := [(1, .ref qX), (0, .ref b)]) K dL_law_7 (by decide) rfl ?_
    refine z_sub (ws' := [(qX, .inr (2, [.ref (bx 0), .ref (bx 1), .ref (bx 2), .int 0])), ((bx 0), .inr (0, [.int 0, .ref (bx 3), .ref (bx 4), .ref (bx 5), .ref (bx 6), .ref (bx 7), .ref (bx 8)])), ((bx 3), .inl (cI, 20, .inl (fun _ => 0))), ((bx 4), .inl (cI, 20, .inl (fun _ => 0))), ((bx 5), .inl (cI, 20, .inl (fun _ => 0))), ((bx 6), .inl (cI, 20, .inl (fun _ => 0))), ((bx 7), .inl (cI, 20, .inl (fun _ => 0))), ((bx 8), .inl (cI, 20, .inl (fun _ => 0))), ((bx 1), .inr (1, [.ref (bx 9), .ref (bx 10), .ref (bx 11), .ref (bx 12), .ref (bx 13), .ref (bx 14), .int 0])), ((bx 9), .inl (cI, 6, .inl (fun _ => 0))), ((bx 10), .inl (cI, 6, .inl (fun _ => 0))), ((bx 11), .inl (cI, 6, .inl (fun _ => 0))), ((bx 12), .inl (cI, 6, .inl (fun _ => 0))), ((bx 13), .inl (cI, 6, .inl (fun _ => 0))), ((bx 14), .inl (cI, 6, .inl (fun _ => 0)))]) [0, 1, 2, 3, 4, 5, 6, 7, 8, 9, 10, 11, 12, 13, 14] (by decide) rfl ?_
    refine z_aload_n K 0 dL_law_8 rfl ?_
    refine z_aload_n K 1 dL_law_9 rfl ?_
    refine z_callSN' (X0 := []) (As := [.ref qX, .ref b]) (rest := []) K (n_L_build l _ D cI cZ cQ cW qX b (bx 0) (bx 1) (bx 2) (bx 3) (bx 4) (bx 5) (bx 6) (bx 7) (bx 8) (bx 9) (bx 10) (bx 11) (bx 12) (bx 13) (bx 14) hbS) gL_law_L_build rfl 2 (by decide +kernel) dL_law_10 rfl z_SX.calling (z_SX.at hSX hbA) rfl rfl ⟨Nat.le_of_ble_eq_true rfl, Nat.le_of_ble_eq_true rfl⟩ ⟨Nat.le_of_ble_eq_true rfl, Nat.le_of_ble_eq_true rfl⟩ rfl rfl (Nat.le_of_ble_eq_true rfl) (fun b' hb' => ?_)
    obtain ⟨q0, hq0⟩ : ∃ q0, b'.2.2.2.2.2.2.2.2.2.2.2.2.2.2.2.1 0 = q0 := ⟨_, rfl⟩
    refine z_astore_n (lv' := [(2, .ref (b'.2.2.2.2.2.2.2.2.2.2.2.2.2.2.2.1 0)), (1, .ref qX), (0, .ref b)]) K dL_law_13 (by decide) rfl ?_
    refine z_aload_n K 0 dL_law_14 rfl ?_
    refine z_ifnonnull K 20 dL_law_15 (by decide) ?_
    refine z_iconst (v := 0) K dL_law_20 (by decide) ?_
    refine z_istore_n (lv' := [(3, .int 0), (2, .ref (b'.2.2.2.2.2.2.2.2.2.2.2.2.2.2.2.1 0)), (1, .ref qX), (0, .ref b)]) K dL_law_21 (by decide) rfl ?_
    refine z_lvE (lv' := [(3, .int (nI 0)), (2, .ref q0), (1, .ref qX), (0, .ref b)]) (by rw [hq0]; rfl) ?_
    refine z_loopE (β := GT) (wsf := fun _ b2 => GWt cI cZ cQ cW qX (bx 0) (bx 1) (bx 2) (bx 3) (bx 4) (bx 5) (bx 6) (bx 7) (bx 8) (bx 9) (bx 10) (bx 11) (bx 12) (bx 13) (bx 14) b2) (lvf := fun k _ => [(3, .int (nI k)), (2, .ref q0), (1, .ref qX), (0, .ref b)]) (fun _ b2 => GIt q0 b2) (fun k => 4037 + 105 * k) (fun k => 27052 + 700 * k) 24 b' ⟨hq0, hb'.1, hb'.2⟩ rfl rfl rfl rfl (fun b2 hb2 => ?_) (fun t ht ih b2 hb2 => lt_turn cI cZ cQ cW qX (bx 0) (bx 1) (bx 2) (bx 3) (bx 4) (bx 5) (bx 6) (bx 7) (bx 8) (bx 9) (bx 10) (bx 11) (bx 12) (bx 13) (bx 14) b q0 t K hSX hbA ht ih b2 hb2)
    refine z_iload_n K 0 dL_law_22 rfl ?_
    refine z_bipush (v := 24) K dL_law_23 (by decide) ?_
    refine z_cmpN K 947 24 24 dL_law_25 (by decide) rfl rfl (by omega) (by omega) (fun _ => ?_) (fun h => absurd h (by omega))
    refine z_aload_n K 1 dL_law_947 rfl ?_
    refine z_aload_n K 2 dL_law_948 rfl ?_
    obtain ⟨n, se, hu, fm, fb, fh, fp, fv, fa, lw, lm, lb, lt, la, lk, u, r, MM, HH, PP, BB, TB, MB, AB, PB⟩ := b2
    have hq1 : u 0 = q0 := hb2.1
    have I : GI n fm fb fh fp fv fa lw lm lb lt MM HH PP BB TB MB AB PB := hb2.2.2
    refine z_st (st' := [.ref qX, .ref (u 0)]) (by rw [hq1]; first | done | rfl) ?_
    refine z_ws (ws' := [(qX, .inr (2, [.ref (bx 0), .ref (bx 1), .ref (bx 2), .int se])), ((bx 0), .inr (0, [.int (nI n), .ref (bx 3), .ref (bx 4), .ref (bx 5), .ref (bx 6), .ref (bx 7), .ref (bx 8)])), ((bx 3), .inl (cI, 20, .inl fm)), ((bx 4), .inl (cI, 20, .inl fb)), ((bx 5), .inl (cI, 20, .inl fh)), ((bx 6), .inl (cI, 20, .inl fp)), ((bx 7), .inl (cI, 20, .inl fv)), ((bx 8), .inl (cI, 20, .inl fa)), ((bx 1), .inr (1, [.ref (bx 9), .ref (bx 10), .ref (bx 11), .ref (bx 12), .ref (bx 13), .ref (bx 14), .int hu])), ((bx 9), .inl (cI, 6, .inl lw)), ((bx 10), .inl (cI, 6, .inl lm)), ((bx 11), .inl (cI, 6, .inl lb)), ((bx 12), .inl (cI, 6, .inl lt)), ((bx 13), .inl (cI, 6, .inl la)), ((bx 14), .inl (cI, 6, .inl lk))] ++ simW cI cZ cQ cW u r n se hu MM HH PP BB TB MB AB PB) rfl ?_
    refine z_callVN (X0 := []) (q0 := 15) (As := [.ref qX]) (rest := []) (C := RX3) (T := TX3) (N := 9) K (n_X3_isSame l _ D cI cZ cQ cW u qX (bx 0) (bx 1) (bx 2) se n (bx 3) (bx 4) (bx 5) (bx 6) (bx 7) (bx 8) fm fb fh fp fv fa (bx 9) (bx 10) (bx 11) (bx 12) (bx 13) (bx 14) hu lw lm lb lt la lk r MM HH PP BB TB MB AB PB I hb2.2.1) gL_law_X3_isSame rfl 1 3 (by decide +kernel) rfl dL_law_949 rfl (fun _ _ _ _ h => h) (fun _ _ _ _ _ _ => trivial) rfl rfl ⟨Nat.le_of_ble_eq_true rfl, Nat.le_of_ble_eq_true rfl⟩ ⟨Nat.le_of_ble_eq_true rfl, Nat.le_of_ble_eq_true rfl⟩ rfl rfl rfl (Nat.le_of_ble_eq_true rfl) (fun _ _ => ?_)
    intro H locs ls hP hD hS hl
    refine va_forget (fun q hq => (hS.2.2 q hq).elim (fun h => nomatch h) id) ?_
    refine W.widen (k := 749707) (n := 6852503) (Nat.le_of_ble_eq_true rfl) (Nat.le_of_ble_eq_true rfl) ?_
    refine W.base ?_
    exact lw_ret (Drawn.sameBut.refl s.drawn lw_cs) hx hb hr hlocks dL_law_952
  rw [lg_entry_eq]
  exact hz s.heap [] _ (fun k q h => by simp at h) ⟨fun i j p q h => by simp at h, fun k q h => by simp at h⟩ va_S.rf (lv_entry ([.ref b]) (n := 20) (Nat.le_of_ble_eq_true rfl))
