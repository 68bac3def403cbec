set_option maxRecDepth 100000 in
set_option maxHeartbeats 4000000 in
theorem whole_start {p : Program} {e : Env} {s : State} {m : MethodId} {below : List Frame} {meth : Method} {c : Code} (l : Launch) (hflags : l.flags = flags0) {b L : Nat} {xs : Nat → Int32} (hL : L ≤ 2560) (C0 : lw_At p s m meth c b L xs) : W p l e room_1 s m #[Value.ref b] below meth c s.heap [] 0 0 (lw_Z below #[Value.ref b] s) (entryFrame m ([Value.ref b] : List Value).toArray 9) := by
  obtain ⟨D, cI, cJ, hE⟩ := st_E l hflags C0
  obtain ⟨hx, hb, hr, hml, hown, hts, hX, hbl, hlocks, hgv⟩ := C0
  have K : z_K p l s m #[Value.ref b] meth c (fun q : Nat => s.heap.size ≤ q) (fun q : Nat => s.heap.size ≤ q) D [(cI, .int), (cJ, .long)] cL_law 9 (some .boolean) wsL_law "FableIndexLaw" := ⟨hx, hb, hml, hown, fun w h => hts w (wsL_law_in w h), hE.1, hr, hlocks, hE, fun q h => h, fun q h => h⟩
  have hbA : ¬ (fun q : Nat => s.heap.size ≤ q) b := Nat.not_le.mpr hbl
  have hz : Z p l e room_1 s m #[Value.ref b] below meth c D 9 (fun q : Nat => s.heap.size ≤ q) (fun q : Nat => s.heap.size ≤ q) (lw_Z below #[Value.ref b] s) [] [(0, .ref b)] 0 0 0 [] := by
    refine z_newO (C := RX2) (T := TX2) (N := 4) (ci := 2) K inlX2 tyX2 tyX2_ok rfl (by decide +kernel) (by decide +kernel) (by decide +kernel) [.null, .null, .null, .int 0] (fun j hj => by rcases (show j = 0 ∨ j = 1 ∨ j = 2 ∨ j = 3 by omega) with rfl | rfl | rfl | rfl <;> rfl) dL_law_0 (Nat.le_of_ble_eq_true rfl) (Nat.le_of_ble_eq_true rfl) (fun qX hqX => ?_)
    refine z_dup K dL_law_3 rfl ?_
    refine z_callI (wr := []) K (i_X2 l _ D cI cJ qX) gL_law_X2_init rfl (by decide +kernel) (by decide +kernel) (by decide +kernel) rfl (by decide +kernel) dL_law_4 hqX 0 [] rfl rfl ⟨Nat.le_of_ble_eq_true rfl, Nat.le_of_ble_eq_true rfl⟩ ⟨Nat.le_of_ble_eq_true rfl, Nat.le_of_ble_eq_true rfl⟩ rfl (by decide) (by decide) rfl (Nat.le_of_ble_eq_true rfl) (fun bx hbx => ?_)
    refine z_astore_n (lv' := [(1, .ref qX), (0, .ref b)]) K dL_law_7 (by decide) rfl ?_
    refine z_newO (C := RX3) (T := TX3) (N := 14) (ci := 3) K inlX3 tyX3 tyX3_ok rfl (by decide +kernel) (by decide +kernel) (by decide +kernel) [.int 0, .int 0, .int 0, .int 0, .null, .null, .null, .null, .null, .null, .null, .null, .null, .null] (fun j hj => by rcases (show j = 0 ∨ j = 1 ∨ j = 2 ∨ j = 3 ∨ j = 4 ∨ j = 5 ∨ j = 6 ∨ j = 7 ∨ j = 8 ∨ j = 9 ∨ j = 10 ∨ j = 11 ∨ j = 12 ∨ j = 13 by omega) with rfl | rfl | rfl | rfl | rfl | rfl | rfl | rfl | rfl | rfl | rfl | rfl | rfl | rfl <;> rfl) dL_law_8 (Nat.le_of_ble_eq_true rfl) (Nat.le_of_ble_eq_true rfl) (fun qM hqM => ?_)
    refine z_dup K dL_law_11 rfl ?_
    refine z_callI (wr := [(qX, .inr (2, [.ref (bx 0), .ref (bx 1), .ref (bx 2), .int 0])), (bx 0, .inr (0, [.int 0, .ref (bx 3), .ref (bx 4), .ref (bx 5), .ref (bx 6), .ref (bx 7), .ref (bx 8)])), (bx 3, .inl (cI, 20, .inl (fun _ => 0))), (bx 4, .inl (cI, 20, .inl (fun _ => 0))), (bx 5, .inl (cI, 20, .inl (fun _ => 0))), (bx 6, .inl (cI, 20, .inl (fun _ => 0))), (bx 7, .inl (cI, 20, .inl (fun _ => 0))), (bx 8, .inl (cI, 20, .inl (fun _ => 0))), (bx 1, .inr (1, [.ref (bx 9), .ref (bx 10), .ref (bx 11), .ref (bx 12), .ref (bx 13), .ref (bx 14), .int 0])), (bx 9, .inl (cI, 6, .inl (fun _ => 0))), (bx 10, .inl (cI, 6, .inl (fun _ => 0))), (bx 11, .inl (cI, 6, .inl (fun _ => 0))), (bx 12, .inl (cI, 6, .inl (fun _ => 0))), (bx 13, .inl (cI, 6, .inl (fun _ => 0))), (bx 14, .inl (cI, 6, .inl (fun _ => 0))), (bx 2, .inr (1, [.ref (bx 15), .ref (bx 16), .ref (bx 17), .ref (bx 18), .ref (bx 19), .ref (bx 20), .int 0])), (bx 15, .inl (cI, 6, .inl (fun _ => 0))), (bx 16, .inl (cI, 6, .inl (fun _ => 0))), (bx 17, .inl (cI, 6, .inl (fun _ => 0))), (bx 18, .inl (cI, 6, .inl (fun _ => 0))), (bx 19, .inl (cI, 6, .inl (fun _ => 0))), (bx 20, .inl (cI, 6, .inl (fun _ => 0)))]) K (i_X3 l _ D cI cJ qM) gL_law_X3_init rfl (by decide +kernel) (by decide +kernel) (by decide +kernel) rfl (by decide +kernel) dL_law_12 hqM 22 [0, 1, 2, 3, 4, 5, 6, 7, 8, 9, 10, 11, 12, 13, 14, 15, 16, 17, 18, 19, 20, 21] rfl rfl ⟨Nat.le_of_ble_eq_true rfl, Nat.le_of_ble_eq_true rfl⟩ ⟨Nat.le_of_ble_eq_true rfl, Nat.le_of_ble_eq_true rfl⟩ rfl (by decide) (by decide) rfl (Nat.le_of_ble_eq_true rfl) (fun bm hbm => ?_)
    refine z_astore_n (lv' := [(2, .ref qM), (1, .ref qX), (0, .ref b)]) K dL_law_15 (by decide) rfl ?_
    refine z_iconst (v := 1) K dL_law_16 (by decide) ?_
    refine z_newL K (by decide +kernel) 1 rfl 1 rfl (by omega) dL_law_17 (Nat.le_of_ble_eq_true rfl) (Nat.le_of_ble_eq_true rfl) (fun qO hqO => ?_)
    refine z_astore_n (lv' := [(3, .ref qO), (2, .ref qM), (1, .ref qX), (0, .ref b)]) K dL_law_19 (by decide) rfl ?_
    refine z_iconst (v := 0) K dL_law_20 (by decide) ?_
    refine z_istore (lv' := [(4, .int 0), (3, .ref qO), (2, .ref qM), (1, .ref qX), (0, .ref b)]) K dL_law_21 (by decide) rfl ?_
    refine z_lv (lv' := [(0, .ref b), (1, .ref qX), (2, .ref qM), (3, .ref qO), (4, .int 0)]) [4, 3, 2, 1, 0] rfl ?_
    have h := hd_loop (p := p) (l := l) (e := e) (R := room_1) (s := s) (m := m) (args := #[Value.ref b]) (below := below) (meth := meth) (c := c) (D := D) (Q := lw_Z below #[Value.ref b] s) qX (bx 0) (bx 3) (bx 4) (bx 5) (bx 6) (bx 7) (bx 8) (bx 1) (bx 9) (bx 10) (bx 11) (bx 12) (bx 13) (bx 14) (bx 2) (bx 15) (bx 16) (bx 17) (bx 18) (bx 19) (bx 20) qM (bm 0) (bm 1) (bm 2) (bm 3) (bm 4) (bm 5) (bm 6) (bm 7) (bm 8) (bm 9) qO b L cI cJ K (fun _ h => h) hX hbl hbA hL (Nat.le_of_ble_eq_true rfl) (Nat.le_of_ble_eq_true rfl) (fun i cells slots n se hu tz th fm fb fh fp fv fa lw lm lb lt la lk tw tm tb tt ta tk nx kp g h1 h2 => by
      refine z_iconst (v := 1) K dL_law_2300 (by decide) ?_
      intro H locs ls hP hD hS hl
      refine va_forget (fun q hq => hS.2.2 q hq) ?_
      refine W.widen (k := 660729) (n := 7113918) h1 h2 ?_
      refine W.base ?_
      exact lw_ret (Drawn.sameBut.refl s.drawn lw_cs) hx hb hr hlocks dL_law_2301) 512 0 34 348 0 0 0 0 0 (fun _ => 0) (fun _ => 0) (fun _ => 0) (fun _ => 0) (fun _ => 0) (fun _ => 0) (fun _ => 0) (fun _ => 0) (fun _ => 0) (fun _ => 0) (fun _ => 0) (fun _ => 0) (fun _ => 0) (fun _ => 0) (fun _ => 0) (fun _ => 0) (fun _ => 0) (fun _ => 0) (fun _ => 0) (fun _ => 0) (fun _ => 0) (by omega) (by omega) (Nat.le_of_ble_eq_true rfl) (Nat.le_of_ble_eq_true rfl) (Inv.zero _ _ _)
    unfold ls_World at h
    rw [nI_0] at h
    exact h
  rw [lg_entry_eq]
  exact hz s.heap [] _ (fun k q h => by simp at h) ⟨fun i j p q h => by simp at h, fun k q h => by simp at h⟩ va_S.rf (lv_entry ([.ref b]) (n := 9) (Nat.le_of_ble_eq_true rfl))
