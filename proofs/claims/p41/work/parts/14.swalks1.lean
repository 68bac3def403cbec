set_option maxRecDepth 100000 in
set_option maxHeartbeats 4000000 in
theorem m_X3_isBanned (l : Launch) (G : Nat → Prop) (D : va_G) (cI cZ cQ cW : ClassId) (u : Nat → Nat) (f : Nat) (v : Nat) (r : Nat → Nat → Nat) (n : Nat) (ss : Int32) (sl : Int32) (MM : Nat → Nat) (HH : Nat → Nat) (PP : Nat → Int32) (BB : Nat → Nat → Bool) (TB : Nat → Nat → Bool) (MB : Nat → Nat → Bool) (AB : Nat → Nat → Bool) (PB : Nat → Nat → Bool) (hn : n ≤ 20) (hMM : ∀ k, k < n → MM k < 10) (hf : f < n) (hv : v < 6) : z_M l yX3_isBanned wsX3_isBanned { frames := 0, cells := 0, slots := 0, locals := 0 } G D [(cI, .int), (cZ, .boolean), (cQ, .array .int), (cW, .array .boolean)] [.ref (u 0), .int (nI f), .int (nI v)] (simW cI cZ cQ cW u r n ss sl MM HH PP BB TB MB AB PB) (some (.int (z_b (bnS MM BB MB AB f v 12)))) [] 0 0 := by
  have iX3 : ∀ w ∈ u_ws RX3 TX3 9, w ∈ wsX3_isBanned := fun w h => List.mem_cons_of_mem _ (List.mem_append_right _ h)
  refine z_ofW (cc := cX3_isBanned) (nL := 5) (ret := (some .boolean)) (by decide) rfl (Nat.le_of_ble_eq_true rfl) [] rfl (lv0 := [(0, .ref (u 0)), (1, .int (nI f)), (2, .int (nI v))]) rfl ?_
  intro p e s m args below meth c K
  have hmf : MM f < 10 := hMM f (by omega)
  refine z_aload_n K 0 dX3_isBanned_0 rfl ?_
  refine z_get (C := RX3) (T := TX3) (N := 9) (ci := 3) (v := .ref (u 4)) K iX3 rfl 0 rfl 6 (by decide) (by decide +kernel) rfl rfl dX3_isBanned_1 ?_
  refine z_iload_n K 2 dX3_isBanned_4 rfl ?_
  refine z_aald (y := (r 3 v)) K 4 3 v rfl rfl rfl (by omega) (by omega) (sm_ref_at (by omega)) dX3_isBanned_5 ?_
  refine z_aload_n K 0 dX3_isBanned_6 rfl ?_
  refine z_get (C := RX3) (T := TX3) (N := 9) (ci := 3) (v := .ref (u 1)) K iX3 rfl 0 rfl 3 (by decide) (by decide +kernel) rfl rfl dX3_isBanned_7 ?_
  refine z_iload_n K 1 dX3_isBanned_10 rfl ?_
  refine z_aald (y := (r 0 f)) K 1 2 f rfl rfl rfl (by omega) (by omega) (sm_ref_at (by omega)) dX3_isBanned_11 ?_
  refine z_iconst (v := 0) K dX3_isBanned_12 (by decide) ?_
  refine z_ialdX (x := (nI (MM f))) K 0 0 rfl (by omega) (by omega) (sw_F (by omega)) rfl dX3_isBanned_13 ?_
  refine z_zald (x := (z_b (MB v (MM f)))) K _ 1 (MM f) (sw_M (by omega)) rfl (by omega) (by omega) dX3_isBanned_14 rfl ?_
  refine z_istore_n (lv' := [(3, .int (z_b (MB v (MM f)))), (0, .ref (u 0)), (1, .int (nI f)), (2, .int (nI v))]) K dX3_isBanned_15 (by decide) rfl ?_
  refine z_iconst (v := 0) K dX3_isBanned_16 (by decide) ?_
  refine z_istore (lv' := [(4, .int 0), (3, .int (z_b (MB v (MM f)))), (0, .ref (u 0)), (1, .int (nI f)), (2, .int (nI v))]) K dX3_isBanned_17 (by decide) rfl ?_
  refine z_loop (wsf := fun k => simW cI cZ cQ cW u r n ss sl MM HH PP BB TB MB AB PB) (lvf := fun k => [(4, .int (nI k)), (3, .int (z_b (bnS MM BB MB AB f v k))), (0, .ref (u 0)), (1, .int (nI f)), (2, .int (nI v))]) 12 (by first | (simp only [bnS_0]; done) | (simp only [bnS_0]; rfl) | rfl) (by first | (simp only [bnS_0]; done) | (simp only [bnS_0]; rfl) | rfl) ?_ (fun k hk ihk => ?_)
  · refine z_iload K 0 dX3_isBanned_19 rfl ?_
    refine z_bipush (v := 12) K dX3_isBanned_21 (by decide) ?_
    refine z_cmpN K 66 12 12 dX3_isBanned_23 (by decide) rfl rfl (by omega) (by omega) (fun _ => ?_) (fun h => absurd h (by omega))
    refine z_iload_n K 1 dX3_isBanned_66 rfl ?_
    exact z_zret K dX3_isBanned_67 (rfl) [] rfl (by decide) (by decide)
  · refine z_iload K 0 dX3_isBanned_19 rfl ?_
    refine z_bipush (v := 12) K dX3_isBanned_21 (by decide) ?_
    refine z_cmpN K 66 k 12 dX3_isBanned_23 (by decide) rfl rfl (by omega) (by omega) (fun h => absurd h (by omega)) (fun _ => ?_)
    refine z_iload_n K 1 dX3_isBanned_26 rfl ?_
    refine z_if_neB K 54 dX3_isBanned_27 (by decide) (fun c27 => ?_) (fun c27 => ?_)
    · refine z_iconst (v := 1) K dX3_isBanned_54 (by decide) ?_
      refine z_goto K 59 dX3_isBanned_55 (by decide) ?_
      refine z_istore_n (lv' := [(3, .int 1), (4, .int (nI k)), (0, .ref (u 0)), (1, .int (nI f)), (2, .int (nI v))]) K dX3_isBanned_59 (by decide) rfl ?_
      refine z_iinc (lv' := [(4, .int (nI (k + 1))), (3, .int 1), (0, .ref (u 0)), (1, .int (nI f)), (2, .int (nI v))]) (v := nI (k + 1)) K 1 dX3_isBanned_60 rfl (z_inc1 k) (by decide) rfl ?_
      refine z_goto K 19 dX3_isBanned_63 (by decide) ?_
      rw [show (z_b (bnS MM BB MB AB f v (k + 1))) = 1 from (by first | (simp only [bnS_succ, z_b, c27, Bool.false_eq_true, if_false, if_true, ↓reduceIte]; done) | rfl | simp [bnS_succ, z_b, c27])] at ihk
      exact ihk
    · refine z_aload_n K 2 dX3_isBanned_30 rfl ?_
      refine z_get (C := RX3) (T := TX3) (N := 9) (ci := 3) (v := .ref (u 2)) K iX3 rfl 0 rfl 4 (by decide) (by decide +kernel) rfl rfl dX3_isBanned_31 ?_
      refine z_iload_n K 3 dX3_isBanned_34 rfl ?_
      refine z_aald (y := (r 1 f)) K 2 3 f rfl rfl rfl (by omega) (by omega) (sm_ref_at (by omega)) dX3_isBanned_35 ?_
      refine z_iload K 0 dX3_isBanned_36 rfl ?_
      refine z_zald (x := (z_b (BB f k))) K _ 1 k (sw_B (by omega)) rfl (by omega) (by omega) dX3_isBanned_38 rfl ?_
      refine z_if_eqB K 58 dX3_isBanned_39 (by decide) (fun c39 => ?_) (fun c39 => ?_)
      · refine z_iconst (v := 0) K dX3_isBanned_58 (by decide) ?_
        refine z_istore_n (lv' := [(3, .int 0), (4, .int (nI k)), (0, .ref (u 0)), (1, .int (nI f)), (2, .int (nI v))]) K dX3_isBanned_59 (by decide) rfl ?_
        refine z_iinc (lv' := [(4, .int (nI (k + 1))), (3, .int 0), (0, .ref (u 0)), (1, .int (nI f)), (2, .int (nI v))]) (v := nI (k + 1)) K 1 dX3_isBanned_60 rfl (z_inc1 k) (by decide) rfl ?_
        refine z_goto K 19 dX3_isBanned_63 (by decide) ?_
        rw [show (z_b (bnS MM BB MB AB f v (k + 1))) = 0 from (by first | (simp only [bnS_succ, z_b, c27, c39, Bool.false_eq_true, if_false, if_true, ↓reduceIte]; done) | rfl | simp [bnS_succ, z_b, c27, c39])] at ihk
        exact ihk
      · refine z_aload_n K 2 dX3_isBanned_42 rfl ?_
        refine z_get (C := RX3) (T := TX3) (N := 9) (ci := 3) (v := .ref (u 5)) K iX3 rfl 0 rfl 7 (by decide) (by decide +kernel) rfl rfl dX3_isBanned_43 ?_
        refine z_iload_n K 4 dX3_isBanned_46 rfl ?_
        refine z_aald (y := (r 4 v)) K 5 3 v rfl rfl rfl (by omega) (by omega) (sm_ref_at (by omega)) dX3_isBanned_47 ?_
        refine z_iload K 0 dX3_isBanned_48 rfl ?_
        refine z_zald (x := (z_b (AB v k))) K _ 1 k (sw_A (by omega)) rfl (by omega) (by omega) dX3_isBanned_50 rfl ?_
        refine z_if_eqB K 58 dX3_isBanned_51 (by decide) (fun c51 => ?_) (fun c51 => ?_)
        · refine z_iconst (v := 0) K dX3_isBanned_58 (by decide) ?_
          refine z_istore_n (lv' := [(3, .int 0), (4, .int (nI k)), (0, .ref (u 0)), (1, .int (nI f)), (2, .int (nI v))]) K dX3_isBanned_59 (by decide) rfl ?_
          refine z_iinc (lv' := [(4, .int (nI (k + 1))), (3, .int 0), (0, .ref (u 0)), (1, .int (nI f)), (2, .int (nI v))]) (v := nI (k + 1)) K 1 dX3_isBanned_60 rfl (z_inc1 k) (by decide) rfl ?_
          refine z_goto K 19 dX3_isBanned_63 (by decide) ?_
          rw [show (z_b (bnS MM BB MB AB f v (k + 1))) = 0 from (by first | (simp only [bnS_succ, z_b, c27, c39, c51, Bool.false_eq_true, if_false, if_true, ↓reduceIte]; done) | rfl | simp [bnS_succ, z_b, c27, c39, c51])] at ihk
          exact ihk
        · refine z_iconst (v := 1) K dX3_isBanned_54 (by decide) ?_
          refine z_goto K 59 dX3_isBanned_55 (by decide) ?_
          refine z_istore_n (lv' := [(3, .int 1), (4, .int (nI k)), (0, .ref (u 0)), (1, .int (nI f)), (2, .int (nI v))]) K dX3_isBanned_59 (by decide) rfl ?_
          refine z_iinc (lv' := [(4, .int (nI (k + 1))), (3, .int 1), (0, .ref (u 0)), (1, .int (nI f)), (2, .int (nI v))]) (v := nI (k + 1)) K 1 dX3_isBanned_60 rfl (z_inc1 k) (by decide) rfl ?_
          refine z_goto K 19 dX3_isBanned_63 (by decide) ?_
          rw [show (z_b (bnS MM BB MB AB f v (k + 1))) = 1 from (by first | (simp only [bnS_succ, z_b, c27, c39, c51, Bool.false_eq_true, if_false, if_true, ↓reduceIte]; done) | rfl | simp [bnS_succ, z_b, c27, c39, c51])] at ihk
          exact ihk

set_option maxRecDepth 100000 in
set_option maxHeartbeats 4000000 in
theorem m_X3_valleys (l : Launch) (G : Nat → Prop) (D : va_G) (cI cZ cQ cW : ClassId) (u : Nat → Nat) (f : Nat) (r : Nat → Nat → Nat) (n : Nat) (ss : Int32) (sl : Int32) (MM : Nat → Nat) (HH : Nat → Nat) (PP : Nat → Int32) (BB : Nat → Nat → Bool) (TB : Nat → Nat → Bool) (MB : Nat → Nat → Bool) (AB : Nat → Nat → Bool) (PB : Nat → Nat → Bool) (hf : f < 20) : z_M l yX3_valleys wsX3_valleys { frames := 0, cells := 0, slots := 0, locals := 0 } G D [(cI, .int), (cZ, .boolean), (cQ, .array .int), (cW, .array .boolean)] [.ref (u 0), .int (nI f)] (simW cI cZ cQ cW u r n ss sl MM HH PP BB TB MB AB PB) (some (.int (vaS TB f 6))) [] 0 0 := by
  have iX3 : ∀ w ∈ u_ws RX3 TX3 9, w ∈ wsX3_valleys := fun w h => List.mem_cons_of_mem _ (List.mem_append_right _ h)
  refine z_ofW (cc := cX3_valleys) (nL := 7) (ret := (some .int)) (by decide) rfl (Nat.le_of_ble_eq_true rfl) [] rfl (lv0 := [(0, .ref (u 0)), (1, .int (nI f))]) rfl ?_
  intro p e s m args below meth c K
  refine z_iconst (v := 0) K dX3_valleys_0 (by decide) ?_
  refine z_istore_n (lv' := [(2, .int 0), (0, .ref (u 0)), (1, .int (nI f))]) K dX3_valleys_1 (by decide) rfl ?_
  refine z_aload_n K 1 dX3_valleys_2 rfl ?_
  refine z_get (C := RX3) (T := TX3) (N := 9) (ci := 3) (v := .ref (u 3)) K iX3 rfl 0 rfl 5 (by decide) (by decide +kernel) rfl rfl dX3_valleys_3 ?_
  refine z_iload_n K 2 dX3_valleys_6 rfl ?_
  refine z_aald (y := (r 2 f)) K 3 3 f rfl rfl rfl (by omega) (by omega) (sm_ref_at (by omega)) dX3_valleys_7 ?_
  refine z_astore_n (lv' := [(3, .ref (r 2 f)), (2, .int 0), (0, .ref (u 0)), (1, .int (nI f))]) K dX3_valleys_8 (by decide) rfl ?_
  refine z_aload_n K 0 dX3_valleys_9 rfl ?_
  refine z_alen K _ 1 (sw_O (by omega)) rfl (v := 6) rfl dX3_valleys_10 ?_
  refine z_istore (lv' := [(4, .int 6), (3, .ref (r 2 f)), (2, .int 0), (0, .ref (u 0)), (1, .int (nI f))]) K dX3_valleys_11 (by decide) rfl ?_
  refine z_iconst (v := 0) K dX3_valleys_13 (by decide) ?_
  refine z_istore (lv' := [(5, .int 0), (4, .int 6), (3, .ref (r 2 f)), (2, .int 0), (0, .ref (u 0)), (1, .int (nI f))]) K dX3_valleys_14 (by decide) rfl ?_
  refine z_lv (lv' := [(5, .int 0), (4, .int 6), (3, .ref (r 2 f)), (2, .int 0), (0, .ref (u 0)), (1, .int (nI f))]) [0, 1, 2, 3, 4, 5] rfl ?_
  refine z_loop (wsf := fun k => simW cI cZ cQ cW u r n ss sl MM HH PP BB TB MB AB PB) (lvf := fun k => [(5, .int (nI k)), (4, .int 6), (3, .ref (r 2 f)), (2, .int (vaS TB f k)), (0, .ref (u 0)), (1, .int (nI f))]) 6 (by first | (simp only [vaS_0]; done) | (simp only [vaS_0]; rfl) | rfl) (by first | (simp only [vaS_0]; done) | (simp only [vaS_0]; rfl) | rfl) ?_ (fun k hk ihk => ?_)
  · refine z_iload K 0 dX3_valleys_16 rfl ?_
    refine z_iload K 1 dX3_valleys_18 rfl ?_
    refine z_cmpN K 48 6 6 dX3_valleys_20 (by decide) rfl rfl (by omega) (by omega) (fun _ => ?_) (fun h => absurd h (by omega))
    refine z_iload_n K 3 dX3_valleys_48 rfl ?_
    exact z_iret K dX3_valleys_49 ((by first | (simp only [vaS_succ, z_b, Bool.false_eq_true, if_false, if_true, ↓reduceIte]; done) | rfl | simp [vaS_succ, z_b])) [] rfl (by decide) (by decide)
  · refine z_iload K 0 dX3_valleys_16 rfl ?_
    refine z_iload K 1 dX3_valleys_18 rfl ?_
    refine z_cmpN K 48 k 6 dX3_valleys_20 (by decide) rfl rfl (by omega) (by omega) (fun h => absurd h (by omega)) (fun _ => ?_)
    refine z_aload_n K 2 dX3_valleys_23 rfl ?_
    refine z_iload K 0 dX3_valleys_24 rfl ?_
    refine z_zald (x := (z_b (TB f k))) K _ 1 k (sw_O (by omega)) rfl (by omega) (by omega) dX3_valleys_26 rfl ?_
    refine z_istore (lv' := [(6, .int (z_b (TB f k))), (5, .int (nI k)), (4, .int 6), (3, .ref (r 2 f)), (2, .int (vaS TB f k)), (0, .ref (u 0)), (1, .int (nI f))]) K dX3_valleys_27 (by decide) rfl ?_
    refine z_iload_n K 4 dX3_valleys_29 rfl ?_
    refine z_iload K 0 dX3_valleys_30 rfl ?_
    refine z_if_eqB K 39 dX3_valleys_32 (by decide) (fun c32 => ?_) (fun c32 => ?_)
    · refine z_iconst (v := 0) K dX3_valleys_39 (by decide) ?_
      refine z_iadd K dX3_valleys_40 ?_
      refine z_istore_n (lv' := [(2, .int (vaS TB f k + 0)), (6, .int (z_b (TB f k))), (5, .int (nI k)), (4, .int 6), (3, .ref (r 2 f)), (0, .ref (u 0)), (1, .int (nI f))]) K dX3_valleys_41 (by decide) rfl ?_
      refine z_iinc (lv' := [(5, .int (nI (k + 1))), (2, .int (vaS TB f k + 0)), (6, .int (z_b (TB f k))), (4, .int 6), (3, .ref (r 2 f)), (0, .ref (u 0)), (1, .int (nI f))]) (v := nI (k + 1)) K 2 dX3_valleys_42 rfl (z_inc1 k) (by decide) rfl ?_
      refine z_goto K 16 dX3_valleys_45 (by decide) ?_
      refine z_lv (lv' := [(5, .int (nI (k + 1))), (4, .int 6), (3, .ref (r 2 f)), (2, .int (vaS TB f k + 0)), (0, .ref (u 0)), (1, .int (nI f))]) [0, 3, 4, 1, 5, 6] rfl ?_
      rw [show (vaS TB f (k + 1)) = (vaS TB f k + 0) from (by first | (simp only [vaS_succ, z_b, c32, Bool.false_eq_true, if_false, if_true, ↓reduceIte]; done) | rfl | simp [vaS_succ, z_b, c32])] at ihk
      exact ihk
    · refine z_iconst (v := 1) K dX3_valleys_35 (by decide) ?_
      refine z_goto K 40 dX3_valleys_36 (by decide) ?_
      refine z_iadd K dX3_valleys_40 ?_
      refine z_istore_n (lv' := [(2, .int (vaS TB f k + 1)), (6, .int (z_b (TB f k))), (5, .int (nI k)), (4, .int 6), (3, .ref (r 2 f)), (0, .ref (u 0)), (1, .int (nI f))]) K dX3_valleys_41 (by decide) rfl ?_
      refine z_iinc (lv' := [(5, .int (nI (k + 1))), (2, .int (vaS TB f k + 1)), (6, .int (z_b (TB f k))), (4, .int 6), (3, .ref (r 2 f)), (0, .ref (u 0)), (1, .int (nI f))]) (v := nI (k + 1)) K 2 dX3_valleys_42 rfl (z_inc1 k) (by decide) rfl ?_
      refine z_goto K 16 dX3_valleys_45 (by decide) ?_
      refine z_lv (lv' := [(5, .int (nI (k + 1))), (4, .int 6), (3, .ref (r 2 f)), (2, .int (vaS TB f k + 1)), (0, .ref (u 0)), (1, .int (nI f))]) [0, 3, 4, 1, 5, 6] rfl ?_
      rw [show (vaS TB f (k + 1)) = (vaS TB f k + 1) from (by first | (simp only [vaS_succ, z_b, c32, Bool.false_eq_true, if_false, if_true, ↓reduceIte]; done) | rfl | simp [vaS_succ, z_b, c32])] at ihk
      exact ihk

set_option maxRecDepth 100000 in
set_option maxHeartbeats 4000000 in
theorem m_X3_beastsOf (l : Launch) (G : Nat → Prop) (D : va_G) (cI cZ cQ cW : ClassId) (u : Nat → Nat) (f : Nat) (r : Nat → Nat → Nat) (n : Nat) (ss : Int32) (sl : Int32) (MM : Nat → Nat) (HH : Nat → Nat) (PP : Nat → Int32) (BB : Nat → Nat → Bool) (TB : Nat → Nat → Bool) (MB : Nat → Nat → Bool) (AB : Nat → Nat → Bool) (PB : Nat → Nat → Bool) (hn : n ≤ 20) (hf : f < n) : z_M l yX3_beastsOf wsX3_beastsOf { frames := 0, cells := 0, slots := 0, locals := 0 } G D [(cI, .int), (cZ, .boolean), (cQ, .array .int), (cW, .array .boolean)] [.ref (u 0), .int (nI f)] (simW cI cZ cQ cW u r n ss sl MM HH PP BB TB MB AB PB) (some (.int (vaS BB f 12))) [] 0 0 := by
  have iX3 : ∀ w ∈ u_ws RX3 TX3 9, w ∈ wsX3_beastsOf := fun w h => List.mem_cons_of_mem _ (List.mem_append_right _ h)
  refine z_ofW (cc := cX3_beastsOf) (nL := 7) (ret := (some .int)) (by decide) rfl (Nat.le_of_ble_eq_true rfl) [] rfl (lv0 := [(0, .ref (u 0)), (1, .int (nI f))]) rfl ?_
  intro p e s m args below meth c K
  refine z_iconst (v := 0) K dX3_beastsOf_0 (by decide) ?_
  refine z_istore_n (lv' := [(2, .int 0), (0, .ref (u 0)), (1, .int (nI f))]) K dX3_beastsOf_1 (by decide) rfl ?_
  refine z_aload_n K 1 dX3_beastsOf_2 rfl ?_
  refine z_get (C := RX3) (T := TX3) (N := 9) (ci := 3) (v := .ref (u 2)) K iX3 rfl 0 rfl 4 (by decide) (by decide +kernel) rfl rfl dX3_beastsOf_3 ?_
  refine z_iload_n K 2 dX3_beastsOf_6 rfl ?_
  refine z_aald (y := (r 1 f)) K 2 3 f rfl rfl rfl (by omega) (by omega) (sm_ref_at (by omega)) dX3_beastsOf_7 ?_
  refine z_astore_n (lv' := [(3, .ref (r 1 f)), (2, .int 0), (0, .ref (u 0)), (1, .int (nI f))]) K dX3_beastsOf_8 (by decide) rfl ?_
  refine z_aload_n K 0 dX3_beastsOf_9 rfl ?_
  refine z_alen K _ 1 (sw_B (by omega)) rfl (v := 12) rfl dX3_beastsOf_10 ?_
  refine z_istore (lv' := [(4, .int 12), (3, .ref (r 1 f)), (2, .int 0), (0, .ref (u 0)), (1, .int (nI f))]) K dX3_beastsOf_11 (by decide) rfl ?_
  refine z_iconst (v := 0) K dX3_beastsOf_13 (by decide) ?_
  refine z_istore (lv' := [(5, .int 0), (4, .int 12), (3, .ref (r 1 f)), (2, .int 0), (0, .ref (u 0)), (1, .int (nI f))]) K dX3_beastsOf_14 (by decide) rfl ?_
  refine z_lv (lv' := [(5, .int 0), (4, .int 12), (3, .ref (r 1 f)), (2, .int 0), (0, .ref (u 0)), (1, .int (nI f))]) [0, 1, 2, 3, 4, 5] rfl ?_
  refine z_loop (wsf := fun k => simW cI cZ cQ cW u r n ss sl MM HH PP BB TB MB AB PB) (lvf := fun k => [(5, .int (nI k)), (4, .int 12), (3, .ref (r 1 f)), (2, .int (vaS BB f k)), (0, .ref (u 0)), (1, .int (nI f))]) 12 (by first | (simp only [vaS_0]; done) | (simp only [vaS_0]; rfl) | rfl) (by first | (simp only [vaS_0]; done) | (simp only [vaS_0]; rfl) | rfl) ?_ (fun k hk ihk => ?_)
  · refine z_iload K 0 dX3_beastsOf_16 rfl ?_
    refine z_iload K 1 dX3_beastsOf_18 rfl ?_
    refine z_cmpN K 48 12 12 dX3_beastsOf_20 (by decide) rfl rfl (by omega) (by omega) (fun _ => ?_) (fun h => absurd h (by omega))
    refine z_iload_n K 3 dX3_beastsOf_48 rfl ?_
    exact z_iret K dX3_beastsOf_49 ((by first | (simp only [vaS_succ, z_b, Bool.false_eq_true, if_false, if_true, ↓reduceIte]; done) | rfl | simp [vaS_succ, z_b])) [] rfl (by decide) (by decide)
  · refine z_iload K 0 dX3_beastsOf_16 rfl ?_
    refine z_iload K 1 dX3_beastsOf_18 rfl ?_
    refine z_cmpN K 48 k 12 dX3_beastsOf_20 (by decide) rfl rfl (by omega) (by omega) (fun h => absurd h (by omega)) (fun _ => ?_)
    refine z_aload_n K 2 dX3_beastsOf_23 rfl ?_
    refine z_iload K 0 dX3_beastsOf_24 rfl ?_
    refine z_zald (x := (z_b (BB f k))) K _ 1 k (sw_B (by omega)) rfl (by omega) (by omega) dX3_beastsOf_26 rfl ?_
    refine z_istore (lv' := [(6, .int (z_b (BB f k))), (5, .int (nI k)), (4, .int 12), (3, .ref (r 1 f)), (2, .int (vaS BB f k)), (0, .ref (u 0)), (1, .int (nI f))]) K dX3_beastsOf_27 (by decide) rfl ?_
    refine z_iload_n K 4 dX3_beastsOf_29 rfl ?_
    refine z_iload K 0 dX3_beastsOf_30 rfl ?_
    refine z_if_eqB K 39 dX3_beastsOf_32 (by decide) (fun c32 => ?_) (fun c32 => ?_)
    · refine z_iconst (v := 0) K dX3_beastsOf_39 (by decide) ?_
      refine z_iadd K dX3_beastsOf_40 ?_
      refine z_istore_n (lv' := [(2, .int (vaS BB f k + 0)), (6, .int (z_b (BB f k))), (5, .int (nI k)), (4, .int 12), (3, .ref (r 1 f)), (0, .ref (u 0)), (1, .int (nI f))]) K dX3_beastsOf_41 (by decide) rfl ?_
      refine z_iinc (lv' := [(5, .int (nI (k + 1))), (2, .int (vaS BB f k + 0)), (6, .int (z_b (BB f k))), (4, .int 12), (3, .ref (r 1 f)), (0, .ref (u 0)), (1, .int (nI f))]) (v := nI (k + 1)) K 2 dX3_beastsOf_42 rfl (z_inc1 k) (by decide) rfl ?_
      refine z_goto K 16 dX3_beastsOf_45 (by decide) ?_
      refine z_lv (lv' := [(5, .int (nI (k + 1))), (4, .int 12), (3, .ref (r 1 f)), (2, .int (vaS BB f k + 0)), (0, .ref (u 0)), (1, .int (nI f))]) [0, 3, 4, 1, 5, 6] rfl ?_
      rw [show (vaS BB f (k + 1)) = (vaS BB f k + 0) from (by first | (simp only [vaS_succ, z_b, c32, Bool.false_eq_true, if_false, if_true, ↓reduceIte]; done) | rfl | simp [vaS_succ, z_b, c32])] at ihk
      exact ihk
    · refine z_iconst (v := 1) K dX3_beastsOf_35 (by decide) ?_
      refine z_goto K 40 dX3_beastsOf_36 (by decide) ?_
      refine z_iadd K dX3_beastsOf_40 ?_
      refine z_istore_n (lv' := [(2, .int (vaS BB f k + 1)), (6, .int (z_b (BB f k))), (5, .int (nI k)), (4, .int 12), (3, .ref (r 1 f)), (0, .ref (u 0)), (1, .int (nI f))]) K dX3_beastsOf_41 (by decide) rfl ?_
      refine z_iinc (lv' := [(5, .int (nI (k + 1))), (2, .int (vaS BB f k + 1)), (6, .int (z_b (BB f k))), (4, .int 12), (3, .ref (r 1 f)), (0, .ref (u 0)), (1, .int (nI f))]) (v := nI (k + 1)) K 2 dX3_beastsOf_42 rfl (z_inc1 k) (by decide) rfl ?_
      refine z_goto K 16 dX3_beastsOf_45 (by decide) ?_
      refine z_lv (lv' := [(5, .int (nI (k + 1))), (4, .int 12), (3, .ref (r 1 f)), (2, .int (vaS BB f k + 1)), (0, .ref (u 0)), (1, .int (nI f))]) [0, 3, 4, 1, 5, 6] rfl ?_
      rw [show (vaS BB f (k + 1)) = (vaS BB f k + 1) from (by first | (simp only [vaS_succ, z_b, c32, Bool.false_eq_true, if_false, if_true, ↓reduceIte]; done) | rfl | simp [vaS_succ, z_b, c32])] at ihk
      exact ihk

set_option maxRecDepth 100000 in
set_option maxHeartbeats 4000000 in
theorem m_X3_tellings (l : Launch) (G : Nat → Prop) (D : va_G) (cI cZ cQ cW : ClassId) (u : Nat → Nat) (r : Nat → Nat → Nat) (n : Nat) (ss : Int32) (sl : Int32) (MM : Nat → Nat) (HH : Nat → Nat) (PP : Nat → Int32) (BB : Nat → Nat → Bool) (TB : Nat → Nat → Bool) (MB : Nat → Nat → Bool) (AB : Nat → Nat → Bool) (PB : Nat → Nat → Bool) (hn : n ≤ 20) : z_M l yX3_tellings wsX3_tellings { frames := 1, cells := 0, slots := 0, locals := 26 } G D [(cI, .int), (cZ, .boolean), (cQ, .array .int), (cW, .array .boolean)] [.ref (u 0)] (simW cI cZ cQ cW u r n ss sl MM HH PP BB TB MB AB PB) (some (.int (teS TB n))) [] 0 0 := by
  have iX3 : ∀ w ∈ u_ws RX3 TX3 9, w ∈ wsX3_tellings := fun w h => List.mem_cons_of_mem _ (List.mem_append_right _ h)
  refine z_ofW (cc := cX3_tellings) (nL := 3) (ret := (some .int)) (by decide) rfl (Nat.le_of_ble_eq_true rfl) [] rfl (lv0 := [(0, .ref (u 0))]) rfl ?_
  intro p e s m args below meth c K
  refine z_iconst (v := 0) K dX3_tellings_0 (by decide) ?_
  refine z_istore_n (lv' := [(1, .int 0), (0, .ref (u 0))]) K dX3_tellings_1 (by decide) rfl ?_
  refine z_iconst (v := 0) K dX3_tellings_2 (by decide) ?_
  refine z_istore_n (lv' := [(2, .int 0), (1, .int 0), (0, .ref (u 0))]) K dX3_tellings_3 (by decide) rfl ?_
  refine z_loop (wsf := fun k => simW cI cZ cQ cW u r n ss sl MM HH PP BB TB MB AB PB) (lvf := fun k => [(2, .int (nI k)), (1, .int (teS TB k)), (0, .ref (u 0))]) n (by first | (simp only [teS_0]; done) | (simp only [teS_0]; rfl) | rfl) (by first | (simp only [teS_0]; done) | (simp only [teS_0]; rfl) | rfl) ?_ (fun k hk ihk => ?_)
  · refine z_iload_n K 0 dX3_tellings_4 rfl ?_
    refine z_aload_n K 2 dX3_tellings_5 rfl ?_
    refine z_get (C := RX3) (T := TX3) (N := 9) (ci := 3) (v := .int (nI n)) K iX3 rfl 0 rfl 0 (by decide) (by decide +kernel) rfl rfl dX3_tellings_6 ?_
    refine z_cmpN K 26 n n dX3_tellings_9 (by decide) rfl rfl (by omega) (by omega) (fun _ => ?_) (fun h => absurd h (by omega))
    refine z_iload_n K 1 dX3_tellings_26 rfl ?_
    exact z_iret K dX3_tellings_27 ((by first | (simp only [teS_succ, Bool.false_eq_true, if_false, if_true, ↓reduceIte]; done) | rfl | simp [teS_succ])) [] rfl (by decide) (by decide)
  · refine z_iload_n K 0 dX3_tellings_4 rfl ?_
    refine z_aload_n K 2 dX3_tellings_5 rfl ?_
    refine z_get (C := RX3) (T := TX3) (N := 9) (ci := 3) (v := .int (nI n)) K iX3 rfl 0 rfl 0 (by decide) (by decide +kernel) rfl rfl dX3_tellings_6 ?_
    refine z_cmpN K 26 k n dX3_tellings_9 (by decide) rfl rfl (by omega) (by omega) (fun h => absurd h (by omega)) (fun _ => ?_)
    refine z_iload_n K 1 dX3_tellings_12 rfl ?_
    refine z_aload_n K 2 dX3_tellings_13 rfl ?_
    refine z_iload_n K 0 dX3_tellings_14 rfl ?_
    refine z_cV (st' := [.int (vaS TB k 6), .int (teS TB k)]) (rest := [.int (teS TB k)]) (C := RX3) (T := TX3) (N := 9) (q0 := 0) K (m_X3_valleys l _ D cI cZ cQ cW u k r n ss sl MM HH PP BB TB MB AB PB (by omega)) gX3_tellings_X3_valleys rfl 1 3 (by decide +kernel) rfl dX3_tellings_15 (List.Sublist.refl _) rfl rfl ⟨by decide, by decide⟩ ⟨by decide, by decide⟩ rfl rfl rfl (Nat.le_of_ble_eq_true rfl) rfl ?_
    refine z_iadd K dX3_tellings_18 ?_
    refine z_istore_n (lv' := [(1, .int (teS TB k + (vaS TB k 6))), (2, .int (nI k)), (0, .ref (u 0))]) K dX3_tellings_19 (by decide) rfl ?_
    refine z_iinc (lv' := [(2, .int (nI (k + 1))), (1, .int (teS TB k + (vaS TB k 6))), (0, .ref (u 0))]) (v := nI (k + 1)) K 1 dX3_tellings_20 rfl (z_inc1 k) (by decide) rfl ?_
    refine z_goto K 4 dX3_tellings_23 (by decide) ?_
    rw [show (teS TB (k + 1)) = (teS TB k + (vaS TB k 6)) from (by first | (simp only [teS_succ, Bool.false_eq_true, if_false, if_true, ↓reduceIte]; done) | rfl | simp [teS_succ])] at ihk
    exact ihk

set_option maxRecDepth 100000 in
set_option maxHeartbeats 4000000 in
theorem m_X3_hasVariant (l : Launch) (G : Nat → Prop) (D : va_G) (cI cZ cQ cW : ClassId) (u : Nat → Nat) (f : Nat) (r : Nat → Nat → Nat) (n : Nat) (ss : Int32) (sl : Int32) (MM : Nat → Nat) (HH : Nat → Nat) (PP : Nat → Int32) (BB : Nat → Nat → Bool) (TB : Nat → Nat → Bool) (MB : Nat → Nat → Bool) (AB : Nat → Nat → Bool) (PB : Nat → Nat → Bool) (hn : n ≤ 20) : z_M l yX3_hasVariant wsX3_hasVariant { frames := 0, cells := 0, slots := 0, locals := 0 } G D [(cI, .int), (cZ, .boolean), (cQ, .array .int), (cW, .array .boolean)] [.ref (u 0), .int (nI f)] (simW cI cZ cQ cW u r n ss sl MM HH PP BB TB MB AB PB) (some (.int (z_b (hvS PP f n)))) [] 0 0 := by
  have iX3 : ∀ w ∈ u_ws RX3 TX3 9, w ∈ wsX3_hasVariant := fun w h => List.mem_cons_of_mem _ (List.mem_append_right _ h)
  refine z_ofW (cc := cX3_hasVariant) (nL := 3) (ret := (some .boolean)) (by decide) rfl (Nat.le_of_ble_eq_true rfl) [] rfl (lv0 := [(0, .ref (u 0)), (1, .int (nI f))]) rfl ?_
  intro p e s m args below meth c K
  refine z_iconst (v := 0) K dX3_hasVariant_0 (by decide) ?_
  refine z_istore_n (lv' := [(2, .int 0), (0, .ref (u 0)), (1, .int (nI f))]) K dX3_hasVariant_1 (by decide) rfl ?_
  refine z_loopI (wsf := fun k => simW cI cZ cQ cW u r n ss sl MM HH PP BB TB MB AB PB) (lvf := fun k => [(2, .int (nI k)), (0, .ref (u 0)), (1, .int (nI f))]) (fun k => hvS PP f k = false) n rfl rfl (hvS_0 PP f) (fun hik => ?_) (fun k hk ihk hik => ?_)
  · refine z_iload_n K 0 dX3_hasVariant_2 rfl ?_
    refine z_aload_n K 1 dX3_hasVariant_3 rfl ?_
    refine z_get (C := RX3) (T := TX3) (N := 9) (ci := 3) (v := .int (nI n)) K iX3 rfl 0 rfl 0 (by decide) (by decide +kernel) rfl rfl dX3_hasVariant_4 ?_
    refine z_cmpN K 30 n n dX3_hasVariant_7 (by decide) rfl rfl (by omega) (by omega) (fun _ => ?_) (fun h => absurd h (by omega))
    refine z_iconst (v := 0) K dX3_hasVariant_30 (by decide) ?_
    exact z_zret K dX3_hasVariant_31 ((by rw [hik]; rfl)) [] rfl (by decide) (by decide)
  · refine z_iload_n K 0 dX3_hasVariant_2 rfl ?_
    refine z_aload_n K 1 dX3_hasVariant_3 rfl ?_
    refine z_get (C := RX3) (T := TX3) (N := 9) (ci := 3) (v := .int (nI n)) K iX3 rfl 0 rfl 0 (by decide) (by decide +kernel) rfl rfl dX3_hasVariant_4 ?_
    refine z_cmpN K 30 k n dX3_hasVariant_7 (by decide) rfl rfl (by omega) (by omega) (fun h => absurd h (by omega)) (fun _ => ?_)
    refine z_aload_n K 1 dX3_hasVariant_10 rfl ?_
    refine z_get (C := RX3) (T := TX3) (N := 9) (ci := 3) (v := .ref (u 1)) K iX3 rfl 0 rfl 3 (by decide) (by decide +kernel) rfl rfl dX3_hasVariant_11 ?_
    refine z_iload_n K 0 dX3_hasVariant_14 rfl ?_
    refine z_aald (y := (r 0 k)) K 1 2 k rfl rfl rfl (by omega) (by omega) (sm_ref_at (by omega)) dX3_hasVariant_15 ?_
    refine z_iconst (v := 2) K dX3_hasVariant_16 (by decide) ?_
    refine z_ialdX (x := (PP k)) K 0 2 rfl (by omega) (by omega) (sw_F (by omega)) rfl dX3_hasVariant_17 ?_
    refine z_iload_n K 2 dX3_hasVariant_18 rfl ?_
    refine z_icmp_ne K 24 dX3_hasVariant_19 (by decide) (fun c19 => ?_) (fun c19 => ?_)
    · refine z_iinc (lv' := [(2, .int (nI (k + 1))), (0, .ref (u 0)), (1, .int (nI f))]) (v := nI (k + 1)) K 0 dX3_hasVariant_24 rfl (z_inc1 k) (by decide) rfl ?_
      refine z_goto K 2 dX3_hasVariant_27 (by decide) ?_
      exact ihk (by rw [hvS_succ, hik, decide_eq_false c19]; rfl)
    · refine z_iconst (v := 1) K dX3_hasVariant_22 (by decide) ?_
      exact z_zret K dX3_hasVariant_23 ((by rw [hvS_true hk c19]; rfl)) [] rfl (by decide) (by decide)

set_option maxRecDepth 100000 in
set_option maxHeartbeats 4000000 in
theorem m_X3_loved (l : Launch) (G : Nat → Prop) (D : va_G) (cI cZ cQ cW : ClassId) (u : Nat → Nat) (w : Nat) (r : Nat → Nat → Nat) (n : Nat) (ss : Int32) (sl : Int32) (MM : Nat → Nat) (HH : Nat → Nat) (PP : Nat → Int32) (BB : Nat → Nat → Bool) (TB : Nat → Nat → Bool) (MB : Nat → Nat → Bool) (AB : Nat → Nat → Bool) (PB : Nat → Nat → Bool) (hn : n ≤ 20) (hw : w < 22) : z_M l yX3_loved wsX3_loved { frames := 1, cells := 0, slots := 0, locals := 26 } G D [(cI, .int), (cZ, .boolean), (cQ, .array .int), (cW, .array .boolean)] [.ref (u 0), .int (nI w)] (simW cI cZ cQ cW u r n ss sl MM HH PP BB TB MB AB PB) (some (.int (lvN MM BB TB n w))) [] 0 0 := by
  have iX3 : ∀ w ∈ u_ws RX3 TX3 9, w ∈ wsX3_loved := fun w h => List.mem_cons_of_mem _ (List.mem_append_right _ h)
  refine z_ofW (cc := cX3_loved) (nL := 4) (ret := (some .int)) (by decide) rfl (Nat.le_of_ble_eq_true rfl) [] rfl (lv0 := [(0, .ref (u 0)), (1, .int (nI w))]) rfl ?_
  intro p e s m args below meth c K
  refine z_iconst (v := 0) K dX3_loved_0 (by decide) ?_
  refine z_istore_n (lv' := [(2, .int 0), (0, .ref (u 0)), (1, .int (nI w))]) K dX3_loved_1 (by decide) rfl ?_
  refine z_iconst (v := 0) K dX3_loved_2 (by decide) ?_
  refine z_istore_n (lv' := [(3, .int 0), (2, .int 0), (0, .ref (u 0)), (1, .int (nI w))]) K dX3_loved_3 (by decide) rfl ?_
  refine z_loop (wsf := fun k => simW cI cZ cQ cW u r n ss sl MM HH PP BB TB MB AB PB) (lvf := fun k => [(3, .int (nI k)), (2, .int (lvS MM BB TB w k)), (0, .ref (u 0)), (1, .int (nI w))]) n (by first | (simp only [lvS_0]; done) | (simp only [lvS_0]; rfl) | rfl) (by first | (simp only [lvS_0]; done) | (simp only [lvS_0]; rfl) | rfl) ?_ (fun k hk ihk => ?_)
  · refine z_iload_n K 0 dX3_loved_4 rfl ?_
    refine z_aload_n K 2 dX3_loved_5 rfl ?_
    refine z_get (C := RX3) (T := TX3) (N := 9) (ci := 3) (v := .int (nI n)) K iX3 rfl 0 rfl 0 (by decide) (by decide +kernel) rfl rfl dX3_loved_6 ?_
    refine z_cmpN K 74 n n dX3_loved_9 (by decide) rfl rfl (by omega) (by omega) (fun _ => ?_) (fun h => absurd h (by omega))
    refine z_iload_n K 1 dX3_loved_74 rfl ?_
    exact z_iret K dX3_loved_75 (rfl) [] rfl (by decide) (by decide)
  · refine z_iload_n K 0 dX3_loved_4 rfl ?_
    refine z_aload_n K 2 dX3_loved_5 rfl ?_
    refine z_get (C := RX3) (T := TX3) (N := 9) (ci := 3) (v := .int (nI n)) K iX3 rfl 0 rfl 0 (by decide) (by decide +kernel) rfl rfl dX3_loved_6 ?_
    refine z_cmpN K 74 k n dX3_loved_9 (by decide) rfl rfl (by omega) (by omega) (fun h => absurd h (by omega)) (fun _ => ?_)
    refine z_iload_n K 1 dX3_loved_12 rfl ?_
    refine z_iload_n K 3 dX3_loved_13 rfl ?_
    refine z_bipush (v := 10) K dX3_loved_14 (by decide) ?_
    refine z_icmp_ge K 43 dX3_loved_16 (by decide) (fun c16 => ?_) (fun c16 => ?_)
    · refine z_aload_n K 2 dX3_loved_43 rfl ?_
      refine z_get (C := RX3) (T := TX3) (N := 9) (ci := 3) (v := .ref (u 2)) K iX3 rfl 0 rfl 4 (by decide) (by decide +kernel) rfl rfl dX3_loved_44 ?_
      refine z_iload_n K 0 dX3_loved_47 rfl ?_
      refine z_aald (y := (r 1 k)) K 2 3 k rfl rfl rfl (by omega) (by omega) (sm_ref_at (by omega)) dX3_loved_48 ?_
      refine z_iload_n K 3 dX3_loved_49 rfl ?_
      refine z_bipush (v := 10) K dX3_loved_50 (by decide) ?_
      have h10 := le10 hw c16
      refine z_isub K dX3_loved_52 ?_
      refine z_st (st' := [.int (nI (w - 10)), .ref (r 1 k), .int (lvS MM BB TB w k)]) (by rw [sub10 w hw c16]) ?_
      refine z_zald (x := (z_b (BB k (w - 10)))) K _ 1 (w - 10) (sw_B (by omega)) rfl (by omega) (by omega) dX3_loved_53 rfl ?_
      refine z_if_eqB K 65 dX3_loved_54 (by decide) (fun c54 => ?_) (fun c54 => ?_)
      · refine z_iconst (v := 0) K dX3_loved_65 (by decide) ?_
        refine z_iadd K dX3_loved_66 ?_
        refine z_istore_n (lv' := [(2, .int (lvS MM BB TB w k + 0)), (3, .int (nI k)), (0, .ref (u 0)), (1, .int (nI w))]) K dX3_loved_67 (by decide) rfl ?_
        refine z_iinc (lv' := [(3, .int (nI (k + 1))), (2, .int (lvS MM BB TB w k + 0)), (0, .ref (u 0)), (1, .int (nI w))]) (v := nI (k + 1)) K 1 dX3_loved_68 rfl (z_inc1 k) (by decide) rfl ?_
        refine z_goto K 4 dX3_loved_71 (by decide) ?_
        rw [show (lvS MM BB TB w (k + 1)) = (lvS MM BB TB w k + 0) from (by first | (simp only [lvS_succ, c16, c54, Bool.false_eq_true, if_false, if_true, ↓reduceIte]; done) | rfl | simp [lvS_succ, c16, c54])] at ihk
        exact ihk
      · refine z_aload_n K 2 dX3_loved_57 rfl ?_
        refine z_iload_n K 0 dX3_loved_58 rfl ?_
        refine z_cV (st' := [.int (vaS TB k 6), .int (lvS MM BB TB w k)]) (rest := [.int (lvS MM BB TB w k)]) (C := RX3) (T := TX3) (N := 9) (q0 := 0) K (m_X3_valleys l _ D cI cZ cQ cW u k r n ss sl MM HH PP BB TB MB AB PB (by omega)) gX3_loved_X3_valleys rfl 1 3 (by decide +kernel) rfl dX3_loved_59 (List.Sublist.refl _) rfl rfl ⟨by decide, by decide⟩ ⟨by decide, by decide⟩ rfl rfl rfl (Nat.le_of_ble_eq_true rfl) rfl ?_
        refine z_goto K 66 dX3_loved_62 (by decide) ?_
        refine z_iadd K dX3_loved_66 ?_
        refine z_istore_n (lv' := [(2, .int (lvS MM BB TB w k + (vaS TB k 6))), (3, .int (nI k)), (0, .ref (u 0)), (1, .int (nI w))]) K dX3_loved_67 (by decide) rfl ?_
        refine z_iinc (lv' := [(3, .int (nI (k + 1))), (2, .int (lvS MM BB TB w k + (vaS TB k 6))), (0, .ref (u 0)), (1, .int (nI w))]) (v := nI (k + 1)) K 1 dX3_loved_68 rfl (z_inc1 k) (by decide) rfl ?_
        refine z_goto K 4 dX3_loved_71 (by decide) ?_
        rw [show (lvS MM BB TB w (k + 1)) = (lvS MM BB TB w k + (vaS TB k 6)) from (by first | (simp only [lvS_succ, c16, c54, Bool.false_eq_true, if_false, if_true, ↓reduceIte]; done) | rfl | simp [lvS_succ, c16, c54])] at ihk
        exact ihk
    · refine z_aload_n K 2 dX3_loved_19 rfl ?_
      refine z_get (C := RX3) (T := TX3) (N := 9) (ci := 3) (v := .ref (u 1)) K iX3 rfl 0 rfl 3 (by decide) (by decide +kernel) rfl rfl dX3_loved_20 ?_
      refine z_iload_n K 0 dX3_loved_23 rfl ?_
      refine z_aald (y := (r 0 k)) K 1 2 k rfl rfl rfl (by omega) (by omega) (sm_ref_at (by omega)) dX3_loved_24 ?_
      refine z_iconst (v := 0) K dX3_loved_25 (by decide) ?_
      refine z_ialdX (x := (nI (MM k))) K 0 0 rfl (by omega) (by omega) (sw_F (by omega)) rfl dX3_loved_26 ?_
      refine z_iload_n K 3 dX3_loved_27 rfl ?_
      refine z_icmp_ne K 39 dX3_loved_28 (by decide) (fun c28 => ?_) (fun c28 => ?_)
      · refine z_iconst (v := 0) K dX3_loved_39 (by decide) ?_
        refine z_goto K 66 dX3_loved_40 (by decide) ?_
        refine z_iadd K dX3_loved_66 ?_
        refine z_istore_n (lv' := [(2, .int (lvS MM BB TB w k + 0)), (3, .int (nI k)), (0, .ref (u 0)), (1, .int (nI w))]) K dX3_loved_67 (by decide) rfl ?_
        refine z_iinc (lv' := [(3, .int (nI (k + 1))), (2, .int (lvS MM BB TB w k + 0)), (0, .ref (u 0)), (1, .int (nI w))]) (v := nI (k + 1)) K 1 dX3_loved_68 rfl (z_inc1 k) (by decide) rfl ?_
        refine z_goto K 4 dX3_loved_71 (by decide) ?_
        rw [show (lvS MM BB TB w (k + 1)) = (lvS MM BB TB w k + 0) from (by first | (simp only [lvS_succ, c16, c28, Bool.false_eq_true, if_false, if_true, ↓reduceIte]; done) | rfl | simp [lvS_succ, c16, c28])] at ihk
        exact ihk
      · refine z_aload_n K 2 dX3_loved_31 rfl ?_
        refine z_iload_n K 0 dX3_loved_32 rfl ?_
        refine z_cV (st' := [.int (vaS TB k 6), .int (lvS MM BB TB w k)]) (rest := [.int (lvS MM BB TB w k)]) (C := RX3) (T := TX3) (N := 9) (q0 := 0) K (m_X3_valleys l _ D cI cZ cQ cW u k r n ss sl MM HH PP BB TB MB AB PB (by omega)) gX3_loved_X3_valleys rfl 1 3 (by decide +kernel) rfl dX3_loved_33 (List.Sublist.refl _) rfl rfl ⟨by decide, by decide⟩ ⟨by decide, by decide⟩ rfl rfl rfl (Nat.le_of_ble_eq_true rfl) rfl ?_
        refine z_goto K 66 dX3_loved_36 (by decide) ?_
        refine z_iadd K dX3_loved_66 ?_
        refine z_istore_n (lv' := [(2, .int (lvS MM BB TB w k + (vaS TB k 6))), (3, .int (nI k)), (0, .ref (u 0)), (1, .int (nI w))]) K dX3_loved_67 (by decide) rfl ?_
        refine z_iinc (lv' := [(3, .int (nI (k + 1))), (2, .int (lvS MM BB TB w k + (vaS TB k 6))), (0, .ref (u 0)), (1, .int (nI w))]) (v := nI (k + 1)) K 1 dX3_loved_68 rfl (z_inc1 k) (by decide) rfl ?_
        refine z_goto K 4 dX3_loved_71 (by decide) ?_
        rw [show (lvS MM BB TB w (k + 1)) = (lvS MM BB TB w k + (vaS TB k 6)) from (by first | (simp only [lvS_succ, c16, c28, Bool.false_eq_true, if_false, if_true, ↓reduceIte]; done) | rfl | simp [lvS_succ, c16, c28])] at ihk
        exact ihk

set_option maxRecDepth 100000 in
set_option maxHeartbeats 4000000 in
theorem m_X3_favourite (l : Launch) (G : Nat → Prop) (D : va_G) (cI cZ cQ cW : ClassId) (u : Nat → Nat) (lo : Nat) (hi : Nat) (r : Nat → Nat → Nat) (n : Nat) (ss : Int32) (sl : Int32) (MM : Nat → Nat) (HH : Nat → Nat) (PP : Nat → Int32) (BB : Nat → Nat → Bool) (TB : Nat → Nat → Bool) (MB : Nat → Nat → Bool) (AB : Nat → Nat → Bool) (PB : Nat → Nat → Bool) (hn : n ≤ 20) (hlo : lo ≤ hi) (hhi : hi ≤ 22) : z_M l yX3_favourite wsX3_favourite { frames := 2, cells := 0, slots := 0, locals := 49 } G D [(cI, .int), (cZ, .boolean), (cQ, .array .int), (cW, .array .boolean)] [.ref (u 0), .int (nI lo), .int (nI hi)] (simW cI cZ cQ cW u r n ss sl MM HH PP BB TB MB AB PB) (some (.int (fvR (lvN MM BB TB n) lo hi))) [] 0 0 := by
  have iX3 : ∀ w ∈ u_ws RX3 TX3 9, w ∈ wsX3_favourite := fun w h => List.mem_cons_of_mem _ (List.mem_append_right _ h)
  refine z_ofW (cc := cX3_favourite) (nL := 5) (ret := (some .int)) (by decide) rfl (Nat.le_of_ble_eq_true rfl) [] rfl (lv0 := [(0, .ref (u 0)), (1, .int (nI lo)), (2, .int (nI hi))]) rfl ?_
  intro p e s m args below meth c K
  have hgi : gi hi = nI hi - 1 := (gi_sub hi).symm
  refine z_iconst (v := (-1)) K dX3_favourite_0 (by decide) ?_
  refine z_istore_n (lv' := [(3, .int (-1)), (0, .ref (u 0)), (1, .int (nI lo)), (2, .int (nI hi))]) K dX3_favourite_1 (by decide) rfl ?_
  refine z_iload_n K 3 dX3_favourite_2 rfl ?_
  refine z_iconst (v := 1) K dX3_favourite_3 (by decide) ?_
  refine z_isub K dX3_favourite_4 ?_
  refine z_istore (lv' := [(4, .int (nI hi - 1)), (3, .int (-1)), (0, .ref (u 0)), (1, .int (nI lo)), (2, .int (nI hi))]) K dX3_favourite_5 (by decide) rfl ?_
  refine z_loop (wsf := fun _ => simW cI cZ cQ cW u r n ss sl MM HH PP BB TB MB AB PB) (lvf := fun d => [(4, .int (gi (hi - d))), (3, .int (fvS (lvN MM BB TB n) hi d)), (0, .ref (u 0)), (1, .int (nI lo)), (2, .int (nI hi))]) (hi - lo) rfl (by rw [show hi - 0 = hi by omega, fvS_0, hgi]) ?_ (fun d hd ihd => ?_)
  · refine z_iload K 0 dX3_favourite_7 rfl ?_
    refine z_iload_n K 3 dX3_favourite_9 rfl ?_
    refine z_icmp_lt K 49 dX3_favourite_10 (by decide) (fun _ => ?_) (fun h => absurd (by rw [show hi - (hi - lo) = lo by omega]; exact gi_lt lo (by omega)) h)
    refine z_iload_n K 1 dX3_favourite_49 rfl ?_
    refine z_if_ge K 57 dX3_favourite_50 (by decide) (fun c50 => ?_) (fun c50 => ?_)
    · refine z_iload_n K 1 dX3_favourite_57 rfl ?_
      refine z_iload_n K 3 dX3_favourite_58 rfl ?_
      refine z_isub K dX3_favourite_59 ?_
      exact z_iret K dX3_favourite_60 ((by unfold fvR; rw [if_neg (Int32.not_lt.mpr c50)])) [] rfl (by decide) (by decide)
    · refine z_iconst (v := (-1)) K dX3_favourite_53 (by decide) ?_
      refine z_goto K 60 dX3_favourite_54 (by decide) ?_
      exact z_iret K dX3_favourite_60 ((by unfold fvR; rw [if_pos (Int32.not_le.mp c50)])) [] rfl (by decide) (by decide)
  · refine z_lvE (lv' := [(4, .int (nI (hi - 1 - d))), (3, .int (fvS (lvN MM BB TB n) hi d)), (0, .ref (u 0)), (1, .int (nI lo)), (2, .int (nI hi))]) (by rw [gi_at (show hi - d = (hi - 1 - d) + 1 by omega)]) ?_
    refine z_iload K 0 dX3_favourite_7 rfl ?_
    refine z_iload_n K 3 dX3_favourite_9 rfl ?_
    refine z_icmp_lt K 49 dX3_favourite_10 (by decide) (fun h => absurd ((nI_ltI (by omega) (by omega)).mp h) (by omega)) (fun _ => ?_)
    refine z_aload_n K 2 dX3_favourite_13 rfl ?_
    refine z_iload K 0 dX3_favourite_14 rfl ?_
    refine z_cV (st' := [.int (lvN MM BB TB n (hi - 1 - d))]) (rest := []) (C := RX3) (T := TX3) (N := 9) (q0 := 0) K (m_X3_loved l _ D cI cZ cQ cW u (hi - 1 - d) r n ss sl MM HH PP BB TB MB AB PB (hn) (by omega)) gX3_favourite_X3_loved rfl 1 3 (by decide +kernel) rfl dX3_favourite_16 (List.Sublist.refl _) rfl rfl ⟨by decide, by decide⟩ ⟨by decide, by decide⟩ rfl rfl rfl (Nat.le_of_ble_eq_true rfl) rfl ?_
    refine z_if_le K 43 dX3_favourite_19 (by decide) (fun c19 => ?_) (fun c19 => ?_)
    · refine z_iinc (lv' := [(4, .int (gi (hi - (d + 1)))), (3, .int (fvS (lvN MM BB TB n) hi d)), (0, .ref (u 0)), (1, .int (nI lo)), (2, .int (nI hi))]) (v := gi (hi - (d + 1))) K 0 dX3_favourite_43 rfl (by rw [show hi - (d + 1) = hi - 1 - d by omega]; exact gi_dec _) (by decide) rfl ?_
      refine z_goto K 7 dX3_favourite_46 (by decide) ?_
      rw [show fvS (lvN MM BB TB n) hi (d + 1) = (fvS (lvN MM BB TB n) hi d) from (by rw [fvS_succ, if_pos c19])] at ihd
      exact ihd
    · refine z_iload_n K 1 dX3_favourite_22 rfl ?_
      refine z_if_lt K 40 dX3_favourite_23 (by decide) (fun c23 => ?_) (fun c23 => ?_)
      · refine z_iload K 0 dX3_favourite_40 rfl ?_
        refine z_istore_n (lv' := [(3, .int (nI (hi - 1 - d))), (4, .int (nI (hi - 1 - d))), (0, .ref (u 0)), (1, .int (nI lo)), (2, .int (nI hi))]) K dX3_favourite_42 (by decide) rfl ?_
        refine z_iinc (lv' := [(4, .int (gi (hi - (d + 1)))), (3, .int (nI (hi - 1 - d))), (0, .ref (u 0)), (1, .int (nI lo)), (2, .int (nI hi))]) (v := gi (hi - (d + 1))) K 1 dX3_favourite_43 rfl (by rw [show hi - (d + 1) = hi - 1 - d by omega]; exact gi_dec _) (by decide) rfl ?_
        refine z_goto K 7 dX3_favourite_46 (by decide) ?_
        rw [show fvS (lvN MM BB TB n) hi (d + 1) = (nI (hi - 1 - d)) from (by rw [fvS_succ, if_neg c19, if_pos c23])] at ihd
        exact ihd
      · refine z_aload_n K 2 dX3_favourite_26 rfl ?_
        refine z_iload K 0 dX3_favourite_27 rfl ?_
        refine z_cV (st' := [.int (lvN MM BB TB n (hi - 1 - d))]) (rest := []) (C := RX3) (T := TX3) (N := 9) (q0 := 0) K (m_X3_loved l _ D cI cZ cQ cW u (hi - 1 - d) r n ss sl MM HH PP BB TB MB AB PB (hn) (by omega)) gX3_favourite_X3_loved rfl 1 3 (by decide +kernel) rfl dX3_favourite_29 (List.Sublist.refl _) rfl rfl ⟨by decide, by decide⟩ ⟨by decide, by decide⟩ rfl rfl rfl (Nat.le_of_ble_eq_true rfl) rfl ?_
        refine z_aload_n K 2 dX3_favourite_32 rfl ?_
        obtain ⟨j, hj1, hj2, hj⟩ := (fvS_cases (lvN MM BB TB n) (to := hi) d (by omega)).resolve_left (fun h => c23 (by rw [h]; decide))
        refine z_iload_n K 1 dX3_favourite_33 rfl ?_
        refine z_st (st' := [.int (nI j), .ref (u 0), .int (lvN MM BB TB n (hi - 1 - d))]) (by rw [hj]) ?_
        refine z_cV (st' := [.int (lvN MM BB TB n j), .int (lvN MM BB TB n (hi - 1 - d))]) (rest := [.int (lvN MM BB TB n (hi - 1 - d))]) (C := RX3) (T := TX3) (N := 9) (q0 := 0) K (m_X3_loved l _ D cI cZ cQ cW u j r n ss sl MM HH PP BB TB MB AB PB (hn) (by omega)) gX3_favourite_X3_loved rfl 1 3 (by decide +kernel) rfl dX3_favourite_34 (List.Sublist.refl _) rfl rfl ⟨by decide, by decide⟩ ⟨by decide, by decide⟩ rfl rfl rfl (Nat.le_of_ble_eq_true rfl) rfl ?_
        refine z_icmp_lt K 43 dX3_favourite_37 (by decide) (fun c37 => ?_) (fun c37 => ?_)
        · refine z_iinc (lv' := [(4, .int (gi (hi - (d + 1)))), (3, .int (fvS (lvN MM BB TB n) hi d)), (0, .ref (u 0)), (1, .int (nI lo)), (2, .int (nI hi))]) (v := gi (hi - (d + 1))) K 0 dX3_favourite_43 rfl (by rw [show hi - (d + 1) = hi - 1 - d by omega]; exact gi_dec _) (by decide) rfl ?_
          refine z_goto K 7 dX3_favourite_46 (by decide) ?_
          rw [show fvS (lvN MM BB TB n) hi (d + 1) = (fvS (lvN MM BB TB n) hi d) from (by rw [fvS_succ, if_neg c19, if_neg c23, if_pos (by rw [hj, ix_nI (by omega)]; exact c37)])] at ihd
          exact ihd
        · refine z_iload K 0 dX3_favourite_40 rfl ?_
          refine z_istore_n (lv' := [(3, .int (nI (hi - 1 - d))), (4, .int (nI (hi - 1 - d))), (0, .ref (u 0)), (1, .int (nI lo)), (2, .int (nI hi))]) K dX3_favourite_42 (by decide) rfl ?_
          refine z_iinc (lv' := [(4, .int (gi (hi - (d + 1)))), (3, .int (nI (hi - 1 - d))), (0, .ref (u 0)), (1, .int (nI lo)), (2, .int (nI hi))]) (v := gi (hi - (d + 1))) K 1 dX3_favourite_43 rfl (by rw [show hi - (d + 1) = hi - 1 - d by omega]; exact gi_dec _) (by decide) rfl ?_
          refine z_goto K 7 dX3_favourite_46 (by decide) ?_
          rw [show fvS (lvN MM BB TB n) hi (d + 1) = (nI (hi - 1 - d)) from (by rw [fvS_succ, if_neg c19, if_neg c23, if_neg (by rw [hj, ix_nI (by omega)]; exact c37)])] at ihd
          exact ihd
