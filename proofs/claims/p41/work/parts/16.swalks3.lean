set_option maxRecDepth 100000 in
set_option maxHeartbeats 4000000 in
theorem n_X3_behind (l : Launch) (G : Nat → Prop) (D : va_G) (cI cZ cQ cW : ClassId) (q : Nat) (u : Nat → Nat) (r : Nat → Nat → Nat) (n : Nat) (ss sl : Int32) (MM HH : Nat → Nat) (PP : Nat → Int32) (BB TB MB AB PB : Nat → Nat → Bool) (hn : n ≤ 20) (hMM : ∀ k, k < n → MM k < 10) (hq : q ≤ 3) : z_MN l yX3_behind wsX3_behind { frames := 2, cells := 63, slots := 420, locals := 50 } G D [(cI, .int), (cZ, .boolean), (cQ, .array .int), (cW, .array .boolean)] [.ref (u 0), .int (nI q)] (simW cI cZ cQ cW u r n ss sl MM HH PP BB TB MB AB PB) (fun _ => True) (β := (Nat → Nat) × (Nat → Nat → Nat)) (fun b => b.1 0 = u 0) (fun _ => some (.ref (u 0))) (fun b => simW cI cZ cQ cW b.1 b.2 n (ss + nI q) (psQ MM PP BB MB AB PB n (TB, sl) q).2 MM HH PP BB (psQ MM PP BB MB AB PB n (TB, sl) q).1 MB AB PB) 63 420 := by
  have iX3 : ∀ w ∈ u_ws RX3 TX3 9, w ∈ wsX3_behind := fun w h => List.mem_cons_of_mem _ (List.mem_append_right _ h)
  refine z_ofWN (cc := cX3_behind) (nL := 3) (ret := (some (.object "FableIndexLaw$Sim"))) (by decide) rfl (Nat.le_of_ble_eq_true rfl) (lv0 := [(0, .ref (u 0)), (1, .int (nI q))]) rfl ?_
  intro p e s m args below meth c K hname hX hAG
  refine z_iconst (v := 0) K dX3_behind_0 (by decide) ?_
  refine z_istore_n (lv' := [(2, .int 0), (0, .ref (u 0)), (1, .int (nI q))]) K dX3_behind_1 (by decide) rfl ?_
  refine z_loopE (β := (Nat → Nat) × (Nat → Nat → Nat)) (wsf := fun k b => simW cI cZ cQ cW b.1 b.2 n (ss + nI k) (psQ MM PP BB MB AB PB n (TB, sl) k).2 MM HH PP BB (psQ MM PP BB MB AB PB n (TB, sl) k).1 MB AB PB) (lvf := fun k _ => [(2, .int (nI k)), (0, .ref (u 0)), (1, .int (nI q))]) (fun _ b => b.1 0 = u 0) (fun k => 21 * k) (fun k => 140 * k) q (u, r) rfl (by show simW _ _ _ _ _ _ _ (ss + 0) _ _ _ _ _ _ _ _ _ = _; rw [Int32.add_zero]; rfl) rfl rfl rfl (fun b hb => ?_) (fun k hk ih b hb => ?_)
  · refine z_iload_n K 0 dX3_behind_2 rfl ?_
    refine z_iload_n K 2 dX3_behind_3 rfl ?_
    refine z_cmpN K 17 q q dX3_behind_4 (by decide) rfl rfl (by omega) (by omega) (fun _ => ?_) (fun h => absurd h (by omega))
    refine z_aload_n K 1 dX3_behind_17 rfl ?_
    exact z_aretN K dX3_behind_18 b hb rfl rfl (by omega) (by omega)
  · refine z_iload_n K 0 dX3_behind_2 rfl ?_
    refine z_iload_n K 2 dX3_behind_3 rfl ?_
    refine z_cmpN K 17 k q dX3_behind_4 (by decide) rfl rfl (by omega) (by omega) (fun h => absurd h (by omega)) (fun _ => ?_)
    refine z_aload_n K 1 dX3_behind_7 rfl ?_
    refine z_st (st' := [.ref (b.1 0)]) (by rw [hb]) ?_
    refine z_callVN (X0 := []) (q0 := 0) (rest := []) (C := RX3) (T := TX3) (N := 9) K (n_X3_pass l _ D cI cZ cQ cW b.1 b.2 n (ss + nI k) (psQ MM PP BB MB AB PB n (TB, sl) k).2 MM HH PP BB (psQ MM PP BB MB AB PB n (TB, sl) k).1 MB AB PB hn hMM) gX3_behind_X3_pass rfl 0 3 (by decide +kernel) rfl dX3_behind_8 rfl (fun _ _ _ _ h => h) (fun _ _ _ _ _ _ => trivial) rfl rfl ⟨by decide, by decide⟩ ⟨by show 21 * k + 21 ≤ 63; omega, by show 140 * k + 140 ≤ 420; omega⟩ rfl rfl rfl (Nat.le_of_ble_eq_true rfl) (fun b' hb' => ?_)
    refine z_iinc (lv' := [(2, .int (nI (k + 1))), (0, .ref (u 0)), (1, .int (nI q))]) (v := nI (k + 1)) K 0 dX3_behind_11 rfl (z_inc1 k) (by decide) rfl ?_
    refine z_goto K 2 dX3_behind_14 (by decide) ?_
    refine z_widen (k := 21 * (k + 1)) (n := 140 * (k + 1)) (by omega) (by omega) ?_
    refine z_ws (ws' := simW cI cZ cQ cW b'.1 b'.2 n (ss + nI (k + 1)) (psQ MM PP BB MB AB PB n (TB, sl) (k + 1)).2 MM HH PP BB (psQ MM PP BB MB AB PB n (TB, sl) (k + 1)).1 MB AB PB) (by show simW _ _ _ _ _ _ _ (ss + nI k + 1) _ _ _ _ _ _ _ _ _ = _; rw [ss_next]; rfl) ?_
    exact ih b' (hb'.trans hb)
set_option maxRecDepth 100000 in
set_option maxHeartbeats 4000000 in
theorem n_X3_init (l : Launch) (G : Nat → Prop) (D : va_G) (cI cZ cQ cW : ClassId) (a : Nat) : z_MN l yX3_init wsX3_init { frames := 1, cells := 45, slots := 366, locals := 14 } G D [(cI, .int), (cZ, .boolean), (cQ, .array .int), (cW, .array .boolean)] [.ref a] [(a, .inr (3, [.int 0, .int 0, .int 0, .null, .null, .null, .null, .null, .null]))] (fun _ => True) (β := (Nat → Nat) × (Nat → Nat → Nat)) (fun b => b.1 0 = a) (fun _ => none) (fun b => simW cI cZ cQ cW b.1 b.2 0 0 0 (fun _ => 0) (fun _ => 0) (fun _ => 0) (fun _ _ => false) (fun _ _ => false) (fun _ _ => false) (fun _ _ => false) (fun _ _ => false)) 45 366 := by
  have iX3 : ∀ w ∈ u_ws RX3 TX3 9, w ∈ wsX3_init := fun w h => List.mem_cons_of_mem _ (List.mem_append_right _ h)
  refine z_ofWN (cc := cX3_init) (nL := 1) (ret := none) (by decide) rfl (Nat.le_of_ble_eq_true rfl) (lv0 := [(0, .ref a)]) rfl ?_
  intro p e s m args below meth c K hname hX hAG
  refine z_aload_n K 0 dX3_init_0 rfl ?_
  refine z_objInit K (by decide +kernel) (by decide +kernel) (by decide +kernel) dX3_init_1 (by decide) (Nat.le_of_ble_eq_true rfl) ?_
  refine z_aload_n K 0 dX3_init_4 rfl ?_
  refine z_bipush (v := 20) K dX3_init_5 (by decide) ?_
  refine z_newA K (by decide +kernel) K.2.2.2.2.2.2.2.2.1.2.2.2.2.2.1 2 rfl 20 rfl (by omega) dX3_init_7 (by decide) (by decide) (fun q7 hq7 => ?_)
  refine z_putFG (C := RX3) (T := TX3) (N := 9) (ci := 3) (q0 := 0) K iX3 rfl tyX3 tyX3_ok nmX3 rfl 3 (by decide) (by decide +kernel) rfl rfl hname rfl rfl rfl (Nat.le_of_ble_eq_true rfl) (ws' := [(a, .inr (3, [.int 0, .int 0, .int 0, .ref q7, .null, .null, .null, .null, .null])), (q7, .inl (cQ, 20, .inr (.inr (.inr (.inr (fun _ => none))))))]) rfl dX3_init_10 ?_
  refine z_aload_n K 0 dX3_init_13 rfl ?_
  refine z_bipush (v := 20) K dX3_init_14 (by decide) ?_
  refine z_newA K (by decide +kernel) K.2.2.2.2.2.2.2.2.1.2.2.2.2.1 3 rfl 20 rfl (by omega) dX3_init_16 (by decide) (by decide) (fun q16 hq16 => ?_)
  refine z_putFG (C := RX3) (T := TX3) (N := 9) (ci := 3) (q0 := 0) K iX3 rfl tyX3 tyX3_ok nmX3 rfl 4 (by decide) (by decide +kernel) rfl rfl hname rfl rfl rfl (Nat.le_of_ble_eq_true rfl) (ws' := [(a, .inr (3, [.int 0, .int 0, .int 0, .ref q7, .ref q16, .null, .null, .null, .null])), (q7, .inl (cQ, 20, .inr (.inr (.inr (.inr (fun _ => none)))))), (q16, .inl (cW, 20, .inr (.inr (.inr (.inr (fun _ => none))))))]) rfl dX3_init_19 ?_
  refine z_aload_n K 0 dX3_init_22 rfl ?_
  refine z_bipush (v := 20) K dX3_init_23 (by decide) ?_
  refine z_bipush (v := 6) K dX3_init_25 (by decide) ?_
  refine z_mna K (by decide +kernel) (by decide +kernel) K.2.2.2.2.2.2.2.2.1.2.2.2.2.1 3 1 rfl rfl 20 6 rfl rfl (by omega) (by omega) (by decide) (by decide) dX3_init_27 (fun q27 r27 hq27 hr27 => ?_)
  refine z_putG (C := RX3) (T := TX3) (N := 9) (ci := 3) (q0 := 0) K iX3 rfl tyX3 tyX3_ok nmX3 rfl 5 (by decide) (by decide +kernel) rfl rfl rfl rfl (Nat.le_of_ble_eq_true rfl) (ws' := [(a, .inr (3, [.int 0, .int 0, .int 0, .ref q7, .ref q16, .ref q27, .null, .null, .null])), (q7, .inl (cQ, 20, .inr (.inr (.inr (.inr (fun _ => none)))))), (q16, .inl (cW, 20, .inr (.inr (.inr (.inr (fun _ => none))))))] ++ gridW cW cZ q27 20 6 r27 (fun _ _ => false)) rfl dX3_init_31 ?_
  refine z_aload_n K 0 dX3_init_34 rfl ?_
  refine z_bipush (v := 6) K dX3_init_35 (by decide) ?_
  refine z_bipush (v := 10) K dX3_init_37 (by decide) ?_
  refine z_mna K (by decide +kernel) (by decide +kernel) K.2.2.2.2.2.2.2.2.1.2.2.2.2.1 3 1 rfl rfl 6 10 rfl rfl (by omega) (by omega) (by decide) (by decide) dX3_init_39 (fun q39 r39 hq39 hr39 => ?_)
  refine z_putFG (C := RX3) (T := TX3) (N := 9) (ci := 3) (q0 := 0) K iX3 rfl tyX3 tyX3_ok nmX3 rfl 6 (by decide) (by decide +kernel) rfl rfl hname rfl rfl rfl (Nat.le_of_ble_eq_true rfl) (ws' := [(a, .inr (3, [.int 0, .int 0, .int 0, .ref q7, .ref q16, .ref q27, .ref q39, .null, .null])), (q7, .inl (cQ, 20, .inr (.inr (.inr (.inr (fun _ => none)))))), (q16, .inl (cW, 20, .inr (.inr (.inr (.inr (fun _ => none))))))] ++ gridW cW cZ q27 20 6 r27 (fun _ _ => false) ++ gridW cW cZ q39 6 10 r39 (fun _ _ => false)) rfl dX3_init_43 ?_
  refine z_aload_n K 0 dX3_init_46 rfl ?_
  refine z_bipush (v := 6) K dX3_init_47 (by decide) ?_
  refine z_bipush (v := 12) K dX3_init_49 (by decide) ?_
  refine z_mna K (by decide +kernel) (by decide +kernel) K.2.2.2.2.2.2.2.2.1.2.2.2.2.1 3 1 rfl rfl 6 12 rfl rfl (by omega) (by omega) (by decide) (by decide) dX3_init_51 (fun q51 r51 hq51 hr51 => ?_)
  refine z_putFG (C := RX3) (T := TX3) (N := 9) (ci := 3) (q0 := 0) K iX3 rfl tyX3 tyX3_ok nmX3 rfl 7 (by decide) (by decide +kernel) rfl rfl hname rfl rfl rfl (Nat.le_of_ble_eq_true rfl) (ws' := [(a, .inr (3, [.int 0, .int 0, .int 0, .ref q7, .ref q16, .ref q27, .ref q39, .ref q51, .null])), (q7, .inl (cQ, 20, .inr (.inr (.inr (.inr (fun _ => none)))))), (q16, .inl (cW, 20, .inr (.inr (.inr (.inr (fun _ => none))))))] ++ gridW cW cZ q27 20 6 r27 (fun _ _ => false) ++ gridW cW cZ q39 6 10 r39 (fun _ _ => false) ++ gridW cW cZ q51 6 12 r51 (fun _ _ => false)) rfl dX3_init_55 ?_
  refine z_aload_n K 0 dX3_init_58 rfl ?_
  refine z_bipush (v := 6) K dX3_init_59 (by decide) ?_
  refine z_bipush (v := 6) K dX3_init_61 (by decide) ?_
  refine z_mna K (by decide +kernel) (by decide +kernel) K.2.2.2.2.2.2.2.2.1.2.2.2.2.1 3 1 rfl rfl 6 6 rfl rfl (by omega) (by omega) (by decide) (by decide) dX3_init_63 (fun q63 r63 hq63 hr63 => ?_)
  refine z_putFG (C := RX3) (T := TX3) (N := 9) (ci := 3) (q0 := 0) K iX3 rfl tyX3 tyX3_ok nmX3 rfl 8 (by decide) (by decide +kernel) rfl rfl hname rfl rfl rfl (Nat.le_of_ble_eq_true rfl) (ws' := [(a, .inr (3, [.int 0, .int 0, .int 0, .ref q7, .ref q16, .ref q27, .ref q39, .ref q51, .ref q63])), (q7, .inl (cQ, 20, .inr (.inr (.inr (.inr (fun _ => none)))))), (q16, .inl (cW, 20, .inr (.inr (.inr (.inr (fun _ => none))))))] ++ gridW cW cZ q27 20 6 r27 (fun _ _ => false) ++ gridW cW cZ q39 6 10 r39 (fun _ _ => false) ++ gridW cW cZ q51 6 12 r51 (fun _ _ => false) ++ gridW cW cZ q63 6 6 r63 (fun _ _ => false)) rfl dX3_init_67 ?_
  refine z_perm (sw_init (cI := cI)) ?_
  exact z_vretN K dX3_init_70 (u0 a q7 q16 q27 q39 q51 q63, r0 r27 r39 r51 r63) rfl rfl rfl (by decide) (by decide)
