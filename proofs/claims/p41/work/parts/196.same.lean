set_option maxRecDepth 100000 in
set_option maxHeartbeats 4000000 in
theorem n_X3_isSame (l : Launch) (G : Nat → Prop) (D : va_G) (cI cZ cQ cW : ClassId) (u : Nat → Nat) (aX : Nat) (aB : Nat) (aL : Nat) (aT : Nat) (se : Int32) (n : Nat) (aB0 : Nat) (aB1 : Nat) (aB2 : Nat) (aB3 : Nat) (aB4 : Nat) (aB5 : Nat) (fm : Nat → Int32) (fb : Nat → Int32) (fh : Nat → Int32) (fp : Nat → Int32) (fv : Nat → Int32) (fa : Nat → Int32) (aL0 : Nat) (aL1 : Nat) (aL2 : Nat) (aL3 : Nat) (aL4 : Nat) (aL5 : Nat) (hu : Int32) (lw : Nat → Int32) (lm : Nat → Int32) (lb : Nat → Int32) (lt : Nat → Int32) (la : Nat → Int32) (lk : Nat → Int32) (r : Nat → Nat → Nat) (MM : Nat → Nat) (HH : Nat → Nat) (PP : Nat → Int32) (BB : Nat → Nat → Bool) (TB : Nat → Nat → Bool) (MB : Nat → Nat → Bool) (AB : Nat → Nat → Bool) (PB : Nat → Nat → Bool) (I : GI n fm fb fh fp fv fa lw lm lb lt MM HH PP BB TB MB AB PB) (h1n : 1 ≤ n) : z_MN l yX3_isSame wsX3_isSame { frames := 4, cells := 1, slots := 22, locals := 89 } G D [(cI, .int), (cZ, .boolean), (cQ, .array .int), (cW, .array .boolean)] [.ref (u 0), .ref aX] ([(aX, .inr (2, [.ref aB, .ref aL, .ref aT, .int se])), (aB, .inr (0, [.int (nI n), .ref aB0, .ref aB1, .ref aB2, .ref aB3, .ref aB4, .ref aB5])), (aB0, .inl (cI, 20, .inl fm)), (aB1, .inl (cI, 20, .inl fb)), (aB2, .inl (cI, 20, .inl fh)), (aB3, .inl (cI, 20, .inl fp)), (aB4, .inl (cI, 20, .inl fv)), (aB5, .inl (cI, 20, .inl fa)), (aL, .inr (1, [.ref aL0, .ref aL1, .ref aL2, .ref aL3, .ref aL4, .ref aL5, .int hu])), (aL0, .inl (cI, 6, .inl lw)), (aL1, .inl (cI, 6, .inl lm)), (aL2, .inl (cI, 6, .inl lb)), (aL3, .inl (cI, 6, .inl lt)), (aL4, .inl (cI, 6, .inl la)), (aL5, .inl (cI, 6, .inl lk))] ++ simW cI cZ cQ cW u r n se hu MM HH PP BB TB MB AB PB) (fun _ => True) (β := Unit) (fun _ => True) (fun _ => some (.int (z_b true))) (fun _ => [(aX, .inr (2, [.ref aB, .ref aL, .ref aT, .int se])), (aB, .inr (0, [.int (nI n), .ref aB0, .ref aB1, .ref aB2, .ref aB3, .ref aB4, .ref aB5])), (aB0, .inl (cI, 20, .inl fm)), (aB1, .inl (cI, 20, .inl fb)), (aB2, .inl (cI, 20, .inl fh)), (aB3, .inl (cI, 20, .inl fp)), (aB4, .inl (cI, 20, .inl fv)), (aB5, .inl (cI, 20, .inl fa)), (aL, .inr (1, [.ref aL0, .ref aL1, .ref aL2, .ref aL3, .ref aL4, .ref aL5, .int hu])), (aL0, .inl (cI, 6, .inl lw)), (aL1, .inl (cI, 6, .inl lm)), (aL2, .inl (cI, 6, .inl lb)), (aL3, .inl (cI, 6, .inl lt)), (aL4, .inl (cI, 6, .inl la)), (aL5, .inl (cI, 6, .inl lk))] ++ simW cI cZ cQ cW u r n se hu MM HH PP BB TB MB AB PB) 1 22 := by
  have iX3 : ∀ w ∈ u_ws RX3 TX3 9, w ∈ wsX3_isSame := fun w h => List.mem_cons_of_mem _ (List.mem_append_left _ (List.mem_append_left _ (List.mem_append_left _ (List.mem_append_left _ (List.mem_append_right _ h)))))
  have iX2 : ∀ w ∈ u_ws RX2 TX2 4, w ∈ wsX3_isSame := fun w h => List.mem_cons_of_mem _ (List.mem_append_left _ (List.mem_append_left _ (List.mem_append_left _ (List.mem_append_right _ h))))
  have iX0 : ∀ w ∈ u_ws RX0 TX0 7, w ∈ wsX3_isSame := fun w h => List.mem_cons_of_mem _ (List.mem_append_left _ (List.mem_append_left _ (List.mem_append_right _ h)))
  have iX1 : ∀ w ∈ u_ws RX1 TX1 7, w ∈ wsX3_isSame := fun w h => List.mem_cons_of_mem _ (List.mem_append_left _ (List.mem_append_right _ h))
  refine z_ofWN (cc := cX3_isSame) (nL := 12) (ret := (some .boolean)) (by decide) rfl (Nat.le_of_ble_eq_true rfl) (lv0 := [(0, .ref (u 0)), (1, .ref aX)]) rfl ?_
  intro p e s m args below meth c K hname hX hAG
  have hn := I.hn
  have hMM := I.hMM
  refine z_aload_n K 1 dX3_isSame_0 rfl ?_
  refine z_callVG (ws' := [(aX, .inr (2, [.ref aB, .ref aL, .ref aT, .int se])), (aB, .inr (0, [.int (nI n), .ref aB0, .ref aB1, .ref aB2, .ref aB3, .ref aB4, .ref aB5])), (aB0, .inl (cI, 20, .inl fm)), (aB1, .inl (cI, 20, .inl fb)), (aB2, .inl (cI, 20, .inl fh)), (aB3, .inl (cI, 20, .inl fp)), (aB4, .inl (cI, 20, .inl fv)), (aB5, .inl (cI, 20, .inl fa)), (aL, .inr (1, [.ref aL0, .ref aL1, .ref aL2, .ref aL3, .ref aL4, .ref aL5, .int hu])), (aL0, .inl (cI, 6, .inl lw)), (aL1, .inl (cI, 6, .inl lm)), (aL2, .inl (cI, 6, .inl lb)), (aL3, .inl (cI, 6, .inl lt)), (aL4, .inl (cI, 6, .inl la)), (aL5, .inl (cI, 6, .inl lk))] ++ simW cI cZ cQ cW u r n se hu MM HH PP BB TB MB AB PB) (st' := [.int (nI n)]) (rest := []) (C := RX2) (T := TX2) (N := 4) K (m_X2_fables l _ D cI cZ cQ cW aX aB aL aT se n aB0 aB1 aB2 aB3 aB4 aB5 ) gX3_isSame_X2_fables rfl 0 2 (by decide +kernel) rfl dX3_isSame_1 [0, 1] 0 [] rfl rfl ⟨by decide, by decide⟩ ⟨by decide, by decide⟩ rfl rfl rfl rfl rfl (Nat.le_of_ble_eq_true rfl) rfl rfl rfl ?_
  refine z_aload_n K 0 dX3_isSame_4 rfl ?_
  refine z_get (C := RX3) (T := TX3) (N := 9) (ci := 3) (v := .int (nI n)) K iX3 rfl 15 rfl 0 (by decide) (by decide +kernel) rfl rfl dX3_isSame_5 ?_
  refine z_icmp_ne K 73 dX3_isSame_8 (by decide) (fun h => absurd (rfl) h) (fun _ => ?_)
  refine z_aload_n K 1 dX3_isSame_11 rfl ?_
  refine z_callVG (ws' := [(aX, .inr (2, [.ref aB, .ref aL, .ref aT, .int se])), (aB, .inr (0, [.int (nI n), .ref aB0, .ref aB1, .ref aB2, .ref aB3, .ref aB4, .ref aB5])), (aB0, .inl (cI, 20, .inl fm)), (aB1, .inl (cI, 20, .inl fb)), (aB2, .inl (cI, 20, .inl fh)), (aB3, .inl (cI, 20, .inl fp)), (aB4, .inl (cI, 20, .inl fv)), (aB5, .inl (cI, 20, .inl fa)), (aL, .inr (1, [.ref aL0, .ref aL1, .ref aL2, .ref aL3, .ref aL4, .ref aL5, .int hu])), (aL0, .inl (cI, 6, .inl lw)), (aL1, .inl (cI, 6, .inl lm)), (aL2, .inl (cI, 6, .inl lb)), (aL3, .inl (cI, 6, .inl lt)), (aL4, .inl (cI, 6, .inl la)), (aL5, .inl (cI, 6, .inl lk))] ++ simW cI cZ cQ cW u r n se hu MM HH PP BB TB MB AB PB) (st' := [.int se]) (rest := []) (C := RX2) (T := TX2) (N := 4) K (m_X2_season l _ D cI cZ cQ cW aX aB aL aT se ) gX3_isSame_X2_season rfl 0 2 (by decide +kernel) rfl dX3_isSame_12 [0] 0 [] rfl rfl ⟨by decide, by decide⟩ ⟨by decide, by decide⟩ rfl rfl rfl rfl rfl (Nat.le_of_ble_eq_true rfl) rfl rfl rfl ?_
  refine z_aload_n K 0 dX3_isSame_15 rfl ?_
  refine z_get (C := RX3) (T := TX3) (N := 9) (ci := 3) (v := .int se) K iX3 rfl 15 rfl 1 (by decide) (by decide +kernel) rfl rfl dX3_isSame_16 ?_
  refine z_icmp_ne K 73 dX3_isSame_19 (by decide) (fun h => absurd (rfl) h) (fun _ => ?_)
  refine z_aload_n K 1 dX3_isSame_22 rfl ?_
  refine z_callVG (ws' := [(aX, .inr (2, [.ref aB, .ref aL, .ref aT, .int se])), (aB, .inr (0, [.int (nI n), .ref aB0, .ref aB1, .ref aB2, .ref aB3, .ref aB4, .ref aB5])), (aB0, .inl (cI, 20, .inl fm)), (aB1, .inl (cI, 20, .inl fb)), (aB2, .inl (cI, 20, .inl fh)), (aB3, .inl (cI, 20, .inl fp)), (aB4, .inl (cI, 20, .inl fv)), (aB5, .inl (cI, 20, .inl fa)), (aL, .inr (1, [.ref aL0, .ref aL1, .ref aL2, .ref aL3, .ref aL4, .ref aL5, .int hu])), (aL0, .inl (cI, 6, .inl lw)), (aL1, .inl (cI, 6, .inl lm)), (aL2, .inl (cI, 6, .inl lb)), (aL3, .inl (cI, 6, .inl lt)), (aL4, .inl (cI, 6, .inl la)), (aL5, .inl (cI, 6, .inl lk))] ++ simW cI cZ cQ cW u r n se hu MM HH PP BB TB MB AB PB) (st' := [.int (cntS lt (allS n) 6)]) (rest := []) (C := RX2) (T := TX2) (N := 4) K (m_X2_tellings l _ D cI cZ cQ cW aX aB aL aT se n aB0 aB1 aB2 aB3 aB4 aB5 aL0 aL1 aL2 aL3 aL4 aL5 hu lt ) gX3_isSame_X2_tellings rfl 0 2 (by decide +kernel) rfl dX3_isSame_23 [0, 1, 8, 12] 0 [] rfl rfl ⟨by decide, by decide⟩ ⟨by decide, by decide⟩ rfl rfl rfl rfl rfl (Nat.le_of_ble_eq_true rfl) rfl rfl rfl ?_
  refine z_aload_n K 0 dX3_isSame_26 rfl ?_
  refine z_cV (st' := [.int (teS TB n), .int (cntS lt (allS n) 6)]) (rest := [.int (cntS lt (allS n) 6)]) (C := RX3) (T := TX3) (N := 9) (q0 := 15) K (m_X3_tellings l _ D cI cZ cQ cW u r n se hu MM HH PP BB TB MB AB PB (hn)) gX3_isSame_X3_tellings rfl 0 3 (by decide +kernel) rfl dX3_isSame_27 (List.sublist_append_right _ _) rfl rfl ⟨by decide, by decide⟩ ⟨by decide, by decide⟩ rfl rfl rfl (Nat.le_of_ble_eq_true rfl) rfl ?_
  refine z_icmp_ne K 73 dX3_isSame_30 (by decide) (fun h => absurd ((tel_eq I).symm) h) (fun _ => ?_)
  refine z_aload_n K 1 dX3_isSame_33 rfl ?_
  refine z_callVG (ws' := [(aX, .inr (2, [.ref aB, .ref aL, .ref aT, .int se])), (aB, .inr (0, [.int (nI n), .ref aB0, .ref aB1, .ref aB2, .ref aB3, .ref aB4, .ref aB5])), (aB0, .inl (cI, 20, .inl fm)), (aB1, .inl (cI, 20, .inl fb)), (aB2, .inl (cI, 20, .inl fh)), (aB3, .inl (cI, 20, .inl fp)), (aB4, .inl (cI, 20, .inl fv)), (aB5, .inl (cI, 20, .inl fa)), (aL, .inr (1, [.ref aL0, .ref aL1, .ref aL2, .ref aL3, .ref aL4, .ref aL5, .int hu])), (aL0, .inl (cI, 6, .inl lw)), (aL1, .inl (cI, 6, .inl lm)), (aL2, .inl (cI, 6, .inl lb)), (aL3, .inl (cI, 6, .inl lt)), (aL4, .inl (cI, 6, .inl la)), (aL5, .inl (cI, 6, .inl lk))] ++ simW cI cZ cQ cW u r n se hu MM HH PP BB TB MB AB PB) (st' := [.int hu]) (rest := []) (C := RX2) (T := TX2) (N := 4) K (m_X2_silenced l _ D cI cZ cQ cW aX aB aL aT se aL0 aL1 aL2 aL3 aL4 aL5 hu ) gX3_isSame_X2_silenced rfl 0 2 (by decide +kernel) rfl dX3_isSame_34 [0, 8] 0 [] rfl rfl ⟨by decide, by decide⟩ ⟨by decide, by decide⟩ rfl rfl rfl rfl rfl (Nat.le_of_ble_eq_true rfl) rfl rfl rfl ?_
  refine z_aload_n K 0 dX3_isSame_37 rfl ?_
  refine z_get (C := RX3) (T := TX3) (N := 9) (ci := 3) (v := .int hu) K iX3 rfl 15 rfl 2 (by decide) (by decide +kernel) rfl rfl dX3_isSame_38 ?_
  refine z_icmp_ne K 73 dX3_isSame_41 (by decide) (fun h => absurd (rfl) h) (fun _ => ?_)
  refine z_aload_n K 1 dX3_isSame_44 rfl ?_
  refine z_callVG (ws' := [(aX, .inr (2, [.ref aB, .ref aL, .ref aT, .int se])), (aB, .inr (0, [.int (nI n), .ref aB0, .ref aB1, .ref aB2, .ref aB3, .ref aB4, .ref aB5])), (aB0, .inl (cI, 20, .inl fm)), (aB1, .inl (cI, 20, .inl fb)), (aB2, .inl (cI, 20, .inl fh)), (aB3, .inl (cI, 20, .inl fp)), (aB4, .inl (cI, 20, .inl fv)), (aB5, .inl (cI, 20, .inl fa)), (aL, .inr (1, [.ref aL0, .ref aL1, .ref aL2, .ref aL3, .ref aL4, .ref aL5, .int hu])), (aL0, .inl (cI, 6, .inl lw)), (aL1, .inl (cI, 6, .inl lm)), (aL2, .inl (cI, 6, .inl lb)), (aL3, .inl (cI, 6, .inl lt)), (aL4, .inl (cI, 6, .inl la)), (aL5, .inl (cI, 6, .inl lk))] ++ simW cI cZ cQ cW u r n se hu MM HH PP BB TB MB AB PB) (st' := [.int ((favM lt fm n 10).1)]) (rest := []) (C := RX2) (T := TX2) (N := 4) K (m_X2_favouriteMoral l _ D cI cZ cQ cW aX aB aL aT se n aB0 aB1 aB2 aB3 aB4 aB5 fm aL0 aL1 aL2 aL3 aL4 aL5 hu lt (by omega)) gX3_isSame_X2_favouriteMoral rfl 0 2 (by decide +kernel) rfl dX3_isSame_45 [0, 1, 2, 8, 12] 0 [] rfl rfl ⟨by decide, by decide⟩ ⟨by decide, by decide⟩ rfl rfl rfl rfl rfl (Nat.le_of_ble_eq_true rfl) rfl rfl rfl ?_
  refine z_aload_n K 0 dX3_isSame_48 rfl ?_
  refine z_iconst (v := 0) K dX3_isSame_49 (by decide) ?_
  refine z_bipush (v := 10) K dX3_isSame_50 (by decide) ?_
  refine z_cV (st' := [.int (fvR (lvN MM BB TB n) 0 10), .int ((favM lt fm n 10).1)]) (rest := [.int ((favM lt fm n 10).1)]) (C := RX3) (T := TX3) (N := 9) (q0 := 15) K (m_X3_favourite l _ D cI cZ cQ cW u 0 10 r n se hu MM HH PP BB TB MB AB PB (hn) (by omega) (by omega)) gX3_isSame_X3_favourite rfl 2 3 (by decide +kernel) rfl dX3_isSame_52 (List.sublist_append_right _ _) rfl rfl ⟨by decide, by decide⟩ ⟨by decide, by decide⟩ rfl rfl rfl (Nat.le_of_ble_eq_true rfl) rfl ?_
  refine z_icmp_ne K 73 dX3_isSame_55 (by decide) (fun h => absurd (favM_eq I) h) (fun _ => ?_)
  refine z_aload_n K 1 dX3_isSame_58 rfl ?_
  refine z_callVG (ws' := [(aX, .inr (2, [.ref aB, .ref aL, .ref aT, .int se])), (aB, .inr (0, [.int (nI n), .ref aB0, .ref aB1, .ref aB2, .ref aB3, .ref aB4, .ref aB5])), (aB0, .inl (cI, 20, .inl fm)), (aB1, .inl (cI, 20, .inl fb)), (aB2, .inl (cI, 20, .inl fh)), (aB3, .inl (cI, 20, .inl fp)), (aB4, .inl (cI, 20, .inl fv)), (aB5, .inl (cI, 20, .inl fa)), (aL, .inr (1, [.ref aL0, .ref aL1, .ref aL2, .ref aL3, .ref aL4, .ref aL5, .int hu])), (aL0, .inl (cI, 6, .inl lw)), (aL1, .inl (cI, 6, .inl lm)), (aL2, .inl (cI, 6, .inl lb)), (aL3, .inl (cI, 6, .inl lt)), (aL4, .inl (cI, 6, .inl la)), (aL5, .inl (cI, 6, .inl lk))] ++ simW cI cZ cQ cW u r n se hu MM HH PP BB TB MB AB PB) (st' := [.int ((favB lt fb n 12).1)]) (rest := []) (C := RX2) (T := TX2) (N := 4) K (m_X2_favouriteBeast l _ D cI cZ cQ cW aX aB aL aT se n aB0 aB1 aB2 aB3 aB4 aB5 fb aL0 aL1 aL2 aL3 aL4 aL5 hu lt (by omega)) gX3_isSame_X2_favouriteBeast rfl 0 2 (by decide +kernel) rfl dX3_isSame_59 [0, 1, 3, 8, 12] 0 [] rfl rfl ⟨by decide, by decide⟩ ⟨by decide, by decide⟩ rfl rfl rfl rfl rfl (Nat.le_of_ble_eq_true rfl) rfl rfl rfl ?_
  refine z_aload_n K 0 dX3_isSame_62 rfl ?_
  refine z_bipush (v := 10) K dX3_isSame_63 (by decide) ?_
  refine z_bipush (v := 22) K dX3_isSame_65 (by decide) ?_
  refine z_cV (st' := [.int (fvR (lvN MM BB TB n) 10 22), .int ((favB lt fb n 12).1)]) (rest := [.int ((favB lt fb n 12).1)]) (C := RX3) (T := TX3) (N := 9) (q0 := 15) K (m_X3_favourite l _ D cI cZ cQ cW u 10 22 r n se hu MM HH PP BB TB MB AB PB (hn) (by omega) (by omega)) gX3_isSame_X3_favourite rfl 2 3 (by decide +kernel) rfl dX3_isSame_67 (List.sublist_append_right _ _) rfl rfl ⟨by decide, by decide⟩ ⟨by decide, by decide⟩ rfl rfl rfl (Nat.le_of_ble_eq_true rfl) rfl ?_
  refine z_icmp_eq K 75 dX3_isSame_70 (by decide) (fun _ => ?_) (fun h => absurd (favB_eq I) h)
  refine z_iconst (v := 0) K dX3_isSame_75 (by decide) ?_
  refine z_istore_n (lv' := [(2, .int 0), (0, .ref (u 0)), (1, .ref aX)]) K dX3_isSame_76 (by decide) rfl ?_
  refine z_bipush (v := 22) K dX3_isSame_77 (by decide) ?_
  refine z_newI K (by decide +kernel) 0 rfl 22 rfl (by omega) dX3_isSame_79 (by decide) (by decide) (fun q79 hq79 => ?_)
  refine z_perm (ws' := [(q79, .inl (cI, 22, .inl (fun _ => 0))), (aX, .inr (2, [.ref aB, .ref aL, .ref aT, .int se])), (aB, .inr (0, [.int (nI n), .ref aB0, .ref aB1, .ref aB2, .ref aB3, .ref aB4, .ref aB5])), (aB0, .inl (cI, 20, .inl fm)), (aB1, .inl (cI, 20, .inl fb)), (aB2, .inl (cI, 20, .inl fh)), (aB3, .inl (cI, 20, .inl fp)), (aB4, .inl (cI, 20, .inl fv)), (aB5, .inl (cI, 20, .inl fa)), (aL, .inr (1, [.ref aL0, .ref aL1, .ref aL2, .ref aL3, .ref aL4, .ref aL5, .int hu])), (aL0, .inl (cI, 6, .inl lw)), (aL1, .inl (cI, 6, .inl lm)), (aL2, .inl (cI, 6, .inl lb)), (aL3, .inl (cI, 6, .inl lt)), (aL4, .inl (cI, 6, .inl la)), (aL5, .inl (cI, 6, .inl lk))] ++ simW cI cZ cQ cW u r n se hu MM HH PP BB TB MB AB PB) List.perm_append_comm ?_
  refine z_astore_n (lv' := [(3, .ref q79), (2, .int 0), (0, .ref (u 0)), (1, .ref aX)]) K dX3_isSame_81 (by decide) rfl ?_
  refine z_iconst (v := 0) K dX3_isSame_82 (by decide) ?_
  refine z_istore (lv' := [(4, .int 0), (3, .ref q79), (2, .int 0), (0, .ref (u 0)), (1, .ref aX)]) K dX3_isSame_83 (by decide) rfl ?_
  refine z_loop (wsf := fun f => [(q79, .inl (cI, 22, .inl (wtO MM BB f))), (aX, .inr (2, [.ref aB, .ref aL, .ref aT, .int se])), (aB, .inr (0, [.int (nI n), .ref aB0, .ref aB1, .ref aB2, .ref aB3, .ref aB4, .ref aB5])), (aB0, .inl (cI, 20, .inl fm)), (aB1, .inl (cI, 20, .inl fb)), (aB2, .inl (cI, 20, .inl fh)), (aB3, .inl (cI, 20, .inl fp)), (aB4, .inl (cI, 20, .inl fv)), (aB5, .inl (cI, 20, .inl fa)), (aL, .inr (1, [.ref aL0, .ref aL1, .ref aL2, .ref aL3, .ref aL4, .ref aL5, .int hu])), (aL0, .inl (cI, 6, .inl lw)), (aL1, .inl (cI, 6, .inl lm)), (aL2, .inl (cI, 6, .inl lb)), (aL3, .inl (cI, 6, .inl lt)), (aL4, .inl (cI, 6, .inl la)), (aL5, .inl (cI, 6, .inl lk))] ++ simW cI cZ cQ cW u r n se hu MM HH PP BB TB MB AB PB) (lvf := fun f => [(4, .int (nI f)), (3, .ref q79), (2, .int (suS BB f)), (0, .ref (u 0)), (1, .ref aX)]) n (by first | (simp only [suS_0, wtO_0]; done) | (simp only [suS_0, wtO_0]; rfl) | rfl) (by first | (simp only [suS_0, wtO_0]; done) | (simp only [suS_0, wtO_0]; rfl) | rfl) ?_ (fun f hf ihf => ?_)
  · refine z_iload K 0 dX3_isSame_85 rfl ?_
    refine z_aload_n K 3 dX3_isSame_87 rfl ?_
    refine z_get (C := RX3) (T := TX3) (N := 9) (ci := 3) (v := .int (nI n)) K iX3 rfl 16 rfl 0 (by decide) (by decide +kernel) rfl rfl dX3_isSame_88 ?_
    refine z_cmpN K 391 n n dX3_isSame_91 (by decide) rfl rfl (by omega) (by omega) (fun _ => ?_) (fun h => absurd h (by omega))
    refine z_iconst (v := 0) K dX3_isSame_391 (by decide) ?_
    refine z_istore (lv' := [(4, .int 0), (3, .ref q79), (2, .int (suS BB n)), (0, .ref (u 0)), (1, .ref aX)]) K dX3_isSame_392 (by decide) rfl ?_
    refine z_loop (wsf := fun mo => [(q79, .inl (cI, 22, .inl (wtO MM BB n))), (aX, .inr (2, [.ref aB, .ref aL, .ref aT, .int se])), (aB, .inr (0, [.int (nI n), .ref aB0, .ref aB1, .ref aB2, .ref aB3, .ref aB4, .ref aB5])), (aB0, .inl (cI, 20, .inl fm)), (aB1, .inl (cI, 20, .inl fb)), (aB2, .inl (cI, 20, .inl fh)), (aB3, .inl (cI, 20, .inl fp)), (aB4, .inl (cI, 20, .inl fv)), (aB5, .inl (cI, 20, .inl fa)), (aL, .inr (1, [.ref aL0, .ref aL1, .ref aL2, .ref aL3, .ref aL4, .ref aL5, .int hu])), (aL0, .inl (cI, 6, .inl lw)), (aL1, .inl (cI, 6, .inl lm)), (aL2, .inl (cI, 6, .inl lb)), (aL3, .inl (cI, 6, .inl lt)), (aL4, .inl (cI, 6, .inl la)), (aL5, .inl (cI, 6, .inl lk))] ++ simW cI cZ cQ cW u r n se hu MM HH PP BB TB MB AB PB) (lvf := fun mo => [(4, .int (nI mo)), (3, .ref q79), (2, .int (suS BB n)), (0, .ref (u 0)), (1, .ref aX)]) 10 rfl rfl ?_ (fun mo hmo ihmo => ?_)
    · refine z_iload K 0 dX3_isSame_394 rfl ?_
      refine z_bipush (v := 10) K dX3_isSame_396 (by decide) ?_
      refine z_cmpN K 422 10 10 dX3_isSame_398 (by decide) rfl rfl (by omega) (by omega) (fun _ => ?_) (fun h => absurd h (by omega))
      refine z_iconst (v := 0) K dX3_isSame_422 (by decide) ?_
      refine z_istore (lv' := [(4, .int 0), (3, .ref q79), (2, .int (suS BB n)), (0, .ref (u 0)), (1, .ref aX)]) K dX3_isSame_423 (by decide) rfl ?_
      refine z_loop (wsf := fun b => [(q79, .inl (cI, 22, .inl (wtO MM BB n))), (aX, .inr (2, [.ref aB, .ref aL, .ref aT, .int se])), (aB, .inr (0, [.int (nI n), .ref aB0, .ref aB1, .ref aB2, .ref aB3, .ref aB4, .ref aB5])), (aB0, .inl (cI, 20, .inl fm)), (aB1, .inl (cI, 20, .inl fb)), (aB2, .inl (cI, 20, .inl fh)), (aB3, .inl (cI, 20, .inl fp)), (aB4, .inl (cI, 20, .inl fv)), (aB5, .inl (cI, 20, .inl fa)), (aL, .inr (1, [.ref aL0, .ref aL1, .ref aL2, .ref aL3, .ref aL4, .ref aL5, .int hu])), (aL0, .inl (cI, 6, .inl lw)), (aL1, .inl (cI, 6, .inl lm)), (aL2, .inl (cI, 6, .inl lb)), (aL3, .inl (cI, 6, .inl lt)), (aL4, .inl (cI, 6, .inl la)), (aL5, .inl (cI, 6, .inl lk))] ++ simW cI cZ cQ cW u r n se hu MM HH PP BB TB MB AB PB) (lvf := fun b => [(4, .int (nI b)), (3, .ref q79), (2, .int (suS BB n)), (0, .ref (u 0)), (1, .ref aX)]) 12 rfl rfl ?_ (fun b hb ihb => ?_)
      · refine z_iload K 0 dX3_isSame_425 rfl ?_
        refine z_bipush (v := 12) K dX3_isSame_427 (by decide) ?_
        refine z_cmpN K 456 12 12 dX3_isSame_429 (by decide) rfl rfl (by omega) (by omega) (fun _ => ?_) (fun h => absurd h (by omega))
        refine z_subl (ws' := [(aX, .inr (2, [.ref aB, .ref aL, .ref aT, .int se])), (aB, .inr (0, [.int (nI n), .ref aB0, .ref aB1, .ref aB2, .ref aB3, .ref aB4, .ref aB5])), (aB0, .inl (cI, 20, .inl fm)), (aB1, .inl (cI, 20, .inl fb)), (aB2, .inl (cI, 20, .inl fh)), (aB3, .inl (cI, 20, .inl fp)), (aB4, .inl (cI, 20, .inl fv)), (aB5, .inl (cI, 20, .inl fa)), (aL, .inr (1, [.ref aL0, .ref aL1, .ref aL2, .ref aL3, .ref aL4, .ref aL5, .int hu])), (aL0, .inl (cI, 6, .inl lw)), (aL1, .inl (cI, 6, .inl lm)), (aL2, .inl (cI, 6, .inl lb)), (aL3, .inl (cI, 6, .inl lt)), (aL4, .inl (cI, 6, .inl la)), (aL5, .inl (cI, 6, .inl lk))] ++ simW cI cZ cQ cW u r n se hu MM HH PP BB TB MB AB PB) (List.sublist_cons_self _ _) ?_
        refine z_iconst (v := 0) K dX3_isSame_456 (by decide) ?_
        refine z_istore (lv' := [(4, .int 0), (3, .ref q79), (2, .int (suS BB n)), (0, .ref (u 0)), (1, .ref aX)]) K dX3_isSame_457 (by decide) rfl ?_
        refine z_lv (lv' := [(4, .int 0), (2, .int (suS BB n)), (0, .ref (u 0)), (1, .ref aX)]) [0, 2, 3, 4] rfl ?_
        refine z_loop (wsf := fun v => [(aX, .inr (2, [.ref aB, .ref aL, .ref aT, .int se])), (aB, .inr (0, [.int (nI n), .ref aB0, .ref aB1, .ref aB2, .ref aB3, .ref aB4, .ref aB5])), (aB0, .inl (cI, 20, .inl fm)), (aB1, .inl (cI, 20, .inl fb)), (aB2, .inl (cI, 20, .inl fh)), (aB3, .inl (cI, 20, .inl fp)), (aB4, .inl (cI, 20, .inl fv)), (aB5, .inl (cI, 20, .inl fa)), (aL, .inr (1, [.ref aL0, .ref aL1, .ref aL2, .ref aL3, .ref aL4, .ref aL5, .int hu])), (aL0, .inl (cI, 6, .inl lw)), (aL1, .inl (cI, 6, .inl lm)), (aL2, .inl (cI, 6, .inl lb)), (aL3, .inl (cI, 6, .inl lt)), (aL4, .inl (cI, 6, .inl la)), (aL5, .inl (cI, 6, .inl lk))] ++ simW cI cZ cQ cW u r n se hu MM HH PP BB TB MB AB PB) (lvf := fun v => [(4, .int (nI v)), (2, .int (suS BB n)), (0, .ref (u 0)), (1, .ref aX)]) 6 rfl rfl ?_ (fun v hv ihv => ?_)
        · refine z_iload K 0 dX3_isSame_459 rfl ?_
          refine z_bipush (v := 6) K dX3_isSame_461 (by decide) ?_
          refine z_cmpN K 721 6 6 dX3_isSame_463 (by decide) rfl rfl (by omega) (by omega) (fun _ => ?_) (fun h => absurd h (by omega))
          refine z_aload_n K 3 dX3_isSame_721 rfl ?_
          refine z_callVG (ws' := [(aX, .inr (2, [.ref aB, .ref aL, .ref aT, .int se])), (aB, .inr (0, [.int (nI n), .ref aB0, .ref aB1, .ref aB2, .ref aB3, .ref aB4, .ref aB5])), (aB0, .inl (cI, 20, .inl fm)), (aB1, .inl (cI, 20, .inl fb)), (aB2, .inl (cI, 20, .inl fh)), (aB3, .inl (cI, 20, .inl fp)), (aB4, .inl (cI, 20, .inl fv)), (aB5, .inl (cI, 20, .inl fa)), (aL, .inr (1, [.ref aL0, .ref aL1, .ref aL2, .ref aL3, .ref aL4, .ref aL5, .int hu])), (aL0, .inl (cI, 6, .inl lw)), (aL1, .inl (cI, 6, .inl lm)), (aL2, .inl (cI, 6, .inl lb)), (aL3, .inl (cI, 6, .inl lt)), (aL4, .inl (cI, 6, .inl la)), (aL5, .inl (cI, 6, .inl lk))] ++ simW cI cZ cQ cW u r n se hu MM HH PP BB TB MB AB PB) (st' := [.double (meaD fb n)]) (rest := []) (C := RX2) (T := TX2) (N := 4) K (m_X2_meanBeasts l _ D cI cZ cQ cW aX aB aL aT se n aB0 aB1 aB2 aB3 aB4 aB5 fb (by omega)) gX3_isSame_X2_meanBeasts rfl 0 2 (by decide +kernel) rfl dX3_isSame_722 [0, 1, 3] 0 [] rfl rfl ⟨by decide, by decide⟩ ⟨by decide, by decide⟩ rfl rfl rfl rfl rfl (Nat.le_of_ble_eq_true rfl) rfl rfl rfl ?_
          refine z_aload_n K 2 dX3_isSame_725 rfl ?_
          refine z_get (C := RX3) (T := TX3) (N := 9) (ci := 3) (v := .int (nI n)) K iX3 rfl 15 rfl 0 (by decide) (by decide +kernel) rfl rfl dX3_isSame_726 ?_
          have hn0 : ¬ nI n = 0 := fun e => absurd ((nI_eq (b := 0) (by omega) (by omega)).mp e) (by omega)
          refine z_if_ne K 736 dX3_isSame_729 (by decide) (fun _ => ?_) (fun h => absurd h hn0)
          refine z_iload_n K 1 dX3_isSame_736 rfl ?_
          refine z_st (st' := [.int (sumB fb n), .double (meaD fb n)]) (by rw [su_eq I n (Nat.le_refl n)]) ?_
          refine z_i2d K dX3_isSame_737 ?_
          refine z_aload_n K 2 dX3_isSame_738 rfl ?_
          refine z_get (C := RX3) (T := TX3) (N := 9) (ci := 3) (v := .int (nI n)) K iX3 rfl 15 rfl 0 (by decide) (by decide +kernel) rfl rfl dX3_isSame_739 ?_
          refine z_i2d K dX3_isSame_742 ?_
          refine z_ddiv K dX3_isSame_743 (mea_ok fb hn hn0) ?_
          refine z_dcmp K dX3_isSame_744 ?_
          refine z_st (st' := [.int 0]) (by rw [mea_pos fb hn0, mea_self fb hn hn0]) ?_
          refine z_if_ne K 752 dX3_isSame_745 (by decide) (fun h => absurd h (by decide)) (fun _ => ?_)
          refine z_iconst (v := 1) K dX3_isSame_748 (by decide) ?_
          refine z_goto K 753 dX3_isSame_749 (by decide) ?_
          exact z_zretN (y := true) K dX3_isSame_753 rfl (b := ()) trivial rfl rfl (by decide) (by decide)
        · refine z_iload K 0 dX3_isSame_459 rfl ?_
          refine z_bipush (v := 6) K dX3_isSame_461 (by decide) ?_
          refine z_cmpN K 721 v 6 dX3_isSame_463 (by decide) rfl rfl (by omega) (by omega) (fun h => absurd h (by omega)) (fun _ => ?_)
          refine z_iconst (v := 0) K dX3_isSame_466 (by decide) ?_
          refine z_istore (lv' := [(5, .int 0), (4, .int (nI v)), (2, .int (suS BB n)), (0, .ref (u 0)), (1, .ref aX)]) K dX3_isSame_467 (by decide) rfl ?_
          refine z_iconst (v := 0) K dX3_isSame_469 (by decide) ?_
          refine z_istore (lv' := [(6, .int 0), (5, .int 0), (4, .int (nI v)), (2, .int (suS BB n)), (0, .ref (u 0)), (1, .ref aX)]) K dX3_isSame_470 (by decide) rfl ?_
          refine z_iconst (v := 0) K dX3_isSame_472 (by decide) ?_
          refine z_istore (lv' := [(7, .int 0), (6, .int 0), (5, .int 0), (4, .int (nI v)), (2, .int (suS BB n)), (0, .ref (u 0)), (1, .ref aX)]) K dX3_isSame_473 (by decide) rfl ?_
          refine z_iconst (v := 0) K dX3_isSame_475 (by decide) ?_
          refine z_istore (lv' := [(8, .int 0), (7, .int 0), (6, .int 0), (5, .int 0), (4, .int (nI v)), (2, .int (suS BB n)), (0, .ref (u 0)), (1, .ref aX)]) K dX3_isSame_476 (by decide) rfl ?_
          refine z_loop (wsf := fun f => [(aX, .inr (2, [.ref aB, .ref aL, .ref aT, .int se])), (aB, .inr (0, [.int (nI n), .ref aB0, .ref aB1, .ref aB2, .ref aB3, .ref aB4, .ref aB5])), (aB0, .inl (cI, 20, .inl fm)), (aB1, .inl (cI, 20, .inl fb)), (aB2, .inl (cI, 20, .inl fh)), (aB3, .inl (cI, 20, .inl fp)), (aB4, .inl (cI, 20, .inl fv)), (aB5, .inl (cI, 20, .inl fa)), (aL, .inr (1, [.ref aL0, .ref aL1, .ref aL2, .ref aL3, .ref aL4, .ref aL5, .int hu])), (aL0, .inl (cI, 6, .inl lw)), (aL1, .inl (cI, 6, .inl lm)), (aL2, .inl (cI, 6, .inl lb)), (aL3, .inl (cI, 6, .inl lt)), (aL4, .inl (cI, 6, .inl la)), (aL5, .inl (cI, 6, .inl lk))] ++ simW cI cZ cQ cW u r n se hu MM HH PP BB TB MB AB PB) (lvf := fun f => [(8, .int (nI f)), (7, .int 0), (6, .int (awP MM BB MB AB v f)), (5, .int (inS TB v f)), (4, .int (nI v)), (2, .int (suS BB n)), (0, .ref (u 0)), (1, .ref aX)]) n (by first | (simp only [inS_0, awP_0]; done) | (simp only [inS_0, awP_0]; rfl) | rfl) (by first | (simp only [inS_0, awP_0]; done) | (simp only [inS_0, awP_0]; rfl) | rfl) ?_ (fun f hf ihf => ?_)
          · refine z_iload K 0 dX3_isSame_478 rfl ?_
            refine z_aload_n K 6 dX3_isSame_480 rfl ?_
            refine z_get (C := RX3) (T := TX3) (N := 9) (ci := 3) (v := .int (nI n)) K iX3 rfl 15 rfl 0 (by decide) (by decide +kernel) rfl rfl dX3_isSame_481 ?_
            refine z_cmpN K 537 n n dX3_isSame_484 (by decide) rfl rfl (by omega) (by omega) (fun _ => ?_) (fun h => absurd h (by omega))
            refine z_aload_n K 6 dX3_isSame_537 rfl ?_
            refine z_get (C := RX3) (T := TX3) (N := 9) (ci := 3) (v := .ref (u 4)) K iX3 rfl 15 rfl 6 (by decide) (by decide +kernel) rfl rfl dX3_isSame_538 ?_
            refine z_iload K 4 dX3_isSame_541 rfl ?_
            refine z_aald (y := (r 3 v)) K 19 3 v rfl rfl rfl (by omega) (by omega) (sm_ref_at (by omega)) dX3_isSame_543 ?_
            refine z_astore (lv' := [(8, .ref (r 3 v)), (7, .int 0), (6, .int (awP MM BB MB AB v n)), (5, .int (inS TB v n)), (4, .int (nI v)), (2, .int (suS BB n)), (0, .ref (u 0)), (1, .ref aX)]) K dX3_isSame_544 (by decide) rfl ?_
            refine z_aload K 0 dX3_isSame_546 rfl ?_
            refine z_alen K _ 1 (ga (n := 15) rfl (sw_M (by omega))) rfl (v := 10) rfl dX3_isSame_548 ?_
            refine z_istore (lv' := [(9, .int 10), (8, .ref (r 3 v)), (7, .int 0), (6, .int (awP MM BB MB AB v n)), (5, .int (inS TB v n)), (4, .int (nI v)), (2, .int (suS BB n)), (0, .ref (u 0)), (1, .ref aX)]) K dX3_isSame_549 (by decide) rfl ?_
            refine z_iconst (v := 0) K dX3_isSame_551 (by decide) ?_
            refine z_istore (lv' := [(10, .int 0), (9, .int 10), (8, .ref (r 3 v)), (7, .int 0), (6, .int (awP MM BB MB AB v n)), (5, .int (inS TB v n)), (4, .int (nI v)), (2, .int (suS BB n)), (0, .ref (u 0)), (1, .ref aX)]) K dX3_isSame_552 (by decide) rfl ?_
            refine z_loop (wsf := fun i => [(aX, .inr (2, [.ref aB, .ref aL, .ref aT, .int se])), (aB, .inr (0, [.int (nI n), .ref aB0, .ref aB1, .ref aB2, .ref aB3, .ref aB4, .ref aB5])), (aB0, .inl (cI, 20, .inl fm)), (aB1, .inl (cI, 20, .inl fb)), (aB2, .inl (cI, 20, .inl fh)), (aB3, .inl (cI, 20, .inl fp)), (aB4, .inl (cI, 20, .inl fv)), (aB5, .inl (cI, 20, .inl fa)), (aL, .inr (1, [.ref aL0, .ref aL1, .ref aL2, .ref aL3, .ref aL4, .ref aL5, .int hu])), (aL0, .inl (cI, 6, .inl lw)), (aL1, .inl (cI, 6, .inl lm)), (aL2, .inl (cI, 6, .inl lb)), (aL3, .inl (cI, 6, .inl lt)), (aL4, .inl (cI, 6, .inl la)), (aL5, .inl (cI, 6, .inl lk))] ++ simW cI cZ cQ cW u r n se hu MM HH PP BB TB MB AB PB) (lvf := fun i => [(10, .int (nI i)), (9, .int 10), (8, .ref (r 3 v)), (7, .int (vaS MB v i)), (6, .int (awP MM BB MB AB v n)), (5, .int (inS TB v n)), (4, .int (nI v)), (2, .int (suS BB n)), (0, .ref (u 0)), (1, .ref aX)]) 10 (by first | (simp only [vaS_0]; done) | (simp only [vaS_0]; rfl) | rfl) (by first | (simp only [vaS_0]; done) | (simp only [vaS_0]; rfl) | rfl) ?_ (fun i hi ihi => ?_)
            · refine z_iload K 0 dX3_isSame_554 rfl ?_
              refine z_iload K 1 dX3_isSame_556 rfl ?_
              refine z_cmpN K 589 10 10 dX3_isSame_558 (by decide) rfl rfl (by omega) (by omega) (fun _ => ?_) (fun h => absurd h (by omega))
              refine z_aload_n K 8 dX3_isSame_589 rfl ?_
              refine z_get (C := RX3) (T := TX3) (N := 9) (ci := 3) (v := .ref (u 5)) K iX3 rfl 15 rfl 7 (by decide) (by decide +kernel) rfl rfl dX3_isSame_590 ?_
              refine z_iload K 6 dX3_isSame_593 rfl ?_
              refine z_aald (y := (r 4 v)) K 20 3 v rfl rfl rfl (by omega) (by omega) (sm_ref_at (by omega)) dX3_isSame_595 ?_
              refine z_astore (lv' := [(8, .ref (r 4 v)), (10, .int (nI 10)), (9, .int 10), (7, .int (vaS MB v 10)), (6, .int (awP MM BB MB AB v n)), (5, .int (inS TB v n)), (4, .int (nI v)), (2, .int (suS BB n)), (0, .ref (u 0)), (1, .ref aX)]) K dX3_isSame_596 (by decide) rfl ?_
              refine z_aload K 0 dX3_isSame_598 rfl ?_
              refine z_alen K _ 1 (ga (n := 15) rfl (sw_A (by omega))) rfl (v := 12) rfl dX3_isSame_600 ?_
              refine z_istore (lv' := [(9, .int 12), (8, .ref (r 4 v)), (10, .int (nI 10)), (7, .int (vaS MB v 10)), (6, .int (awP MM BB MB AB v n)), (5, .int (inS TB v n)), (4, .int (nI v)), (2, .int (suS BB n)), (0, .ref (u 0)), (1, .ref aX)]) K dX3_isSame_601 (by decide) rfl ?_
              refine z_iconst (v := 0) K dX3_isSame_603 (by decide) ?_
              refine z_istore (lv' := [(10, .int 0), (9, .int 12), (8, .ref (r 4 v)), (7, .int (vaS MB v 10)), (6, .int (awP MM BB MB AB v n)), (5, .int (inS TB v n)), (4, .int (nI v)), (2, .int (suS BB n)), (0, .ref (u 0)), (1, .ref aX)]) K dX3_isSame_604 (by decide) rfl ?_
              refine z_loop (wsf := fun i => [(aX, .inr (2, [.ref aB, .ref aL, .ref aT, .int se])), (aB, .inr (0, [.int (nI n), .ref aB0, .ref aB1, .ref aB2, .ref aB3, .ref aB4, .ref aB5])), (aB0, .inl (cI, 20, .inl fm)), (aB1, .inl (cI, 20, .inl fb)), (aB2, .inl (cI, 20, .inl fh)), (aB3, .inl (cI, 20, .inl fp)), (aB4, .inl (cI, 20, .inl fv)), (aB5, .inl (cI, 20, .inl fa)), (aL, .inr (1, [.ref aL0, .ref aL1, .ref aL2, .ref aL3, .ref aL4, .ref aL5, .int hu])), (aL0, .inl (cI, 6, .inl lw)), (aL1, .inl (cI, 6, .inl lm)), (aL2, .inl (cI, 6, .inl lb)), (aL3, .inl (cI, 6, .inl lt)), (aL4, .inl (cI, 6, .inl la)), (aL5, .inl (cI, 6, .inl lk))] ++ simW cI cZ cQ cW u r n se hu MM HH PP BB TB MB AB PB) (lvf := fun i => [(10, .int (nI i)), (9, .int 12), (8, .ref (r 4 v)), (7, .int (vbS AB v (vaS MB v 10) i)), (6, .int (awP MM BB MB AB v n)), (5, .int (inS TB v n)), (4, .int (nI v)), (2, .int (suS BB n)), (0, .ref (u 0)), (1, .ref aX)]) 12 (by first | (simp only [vbS_0]; done) | (simp only [vbS_0]; rfl) | rfl) (by first | (simp only [vbS_0]; done) | (simp only [vbS_0]; rfl) | rfl) ?_ (fun i hi ihi => ?_)
              · refine z_iload K 0 dX3_isSame_606 rfl ?_
                refine z_iload K 1 dX3_isSame_608 rfl ?_
                refine z_cmpN K 641 12 12 dX3_isSame_610 (by decide) rfl rfl (by omega) (by omega) (fun _ => ?_) (fun h => absurd h (by omega))
                refine z_aload_n K 9 dX3_isSame_641 rfl ?_
                refine z_iload K 6 dX3_isSame_642 rfl ?_
                refine z_callVG (ws' := [(aX, .inr (2, [.ref aB, .ref aL, .ref aT, .int se])), (aB, .inr (0, [.int (nI n), .ref aB0, .ref aB1, .ref aB2, .ref aB3, .ref aB4, .ref aB5])), (aB0, .inl (cI, 20, .inl fm)), (aB1, .inl (cI, 20, .inl fb)), (aB2, .inl (cI, 20, .inl fh)), (aB3, .inl (cI, 20, .inl fp)), (aB4, .inl (cI, 20, .inl fv)), (aB5, .inl (cI, 20, .inl fa)), (aL, .inr (1, [.ref aL0, .ref aL1, .ref aL2, .ref aL3, .ref aL4, .ref aL5, .int hu])), (aL0, .inl (cI, 6, .inl lw)), (aL1, .inl (cI, 6, .inl lm)), (aL2, .inl (cI, 6, .inl lb)), (aL3, .inl (cI, 6, .inl lt)), (aL4, .inl (cI, 6, .inl la)), (aL5, .inl (cI, 6, .inl lk))] ++ simW cI cZ cQ cW u r n se hu MM HH PP BB TB MB AB PB) (st' := [.int (pc (lt v))]) (rest := []) (C := RX2) (T := TX2) (N := 4) K (m_X2_toldIn l _ D cI cZ cQ cW aX v aB aL aT se aL0 aL1 aL2 aL3 aL4 aL5 hu lt (by omega)) gX3_isSame_X2_toldIn rfl 1 2 (by decide +kernel) rfl dX3_isSame_644 [0, 8, 12] 0 [] rfl rfl ⟨by decide, by decide⟩ ⟨by decide, by decide⟩ rfl rfl rfl rfl rfl (Nat.le_of_ble_eq_true rfl) rfl rfl rfl ?_
                refine z_iload K 5 dX3_isSame_647 rfl ?_
                refine z_icmp_ne K 674 dX3_isSame_649 (by decide) (fun h => absurd (in_eq I hv) h) (fun _ => ?_)
                refine z_aload_n K 9 dX3_isSame_652 rfl ?_
                refine z_iload K 6 dX3_isSame_653 rfl ?_
                refine z_callVG (ws' := [(aX, .inr (2, [.ref aB, .ref aL, .ref aT, .int se])), (aB, .inr (0, [.int (nI n), .ref aB0, .ref aB1, .ref aB2, .ref aB3, .ref aB4, .ref aB5])), (aB0, .inl (cI, 20, .inl fm)), (aB1, .inl (cI, 20, .inl fb)), (aB2, .inl (cI, 20, .inl fh)), (aB3, .inl (cI, 20, .inl fp)), (aB4, .inl (cI, 20, .inl fv)), (aB5, .inl (cI, 20, .inl fa)), (aL, .inr (1, [.ref aL0, .ref aL1, .ref aL2, .ref aL3, .ref aL4, .ref aL5, .int hu])), (aL0, .inl (cI, 6, .inl lw)), (aL1, .inl (cI, 6, .inl lm)), (aL2, .inl (cI, 6, .inl lb)), (aL3, .inl (cI, 6, .inl lt)), (aL4, .inl (cI, 6, .inl la)), (aL5, .inl (cI, 6, .inl lk))] ++ simW cI cZ cQ cW u r n se hu MM HH PP BB TB MB AB PB) (st' := [.int (pc (welS lm lb fm fb v n))]) (rest := []) (C := RX2) (T := TX2) (N := 4) K (m_X2_allowedIn l _ D cI cZ cQ cW aX v aB aL aT se n aB0 aB1 aB2 aB3 aB4 aB5 fm fb aL0 aL1 aL2 aL3 aL4 aL5 hu lm lb (by omega) (by omega)) gX3_isSame_X2_allowedIn rfl 1 2 (by decide +kernel) rfl dX3_isSame_655 [0, 1, 2, 3, 8, 10, 11] 0 [] rfl rfl ⟨by decide, by decide⟩ ⟨by decide, by decide⟩ rfl rfl rfl rfl rfl (Nat.le_of_ble_eq_true rfl) rfl rfl rfl ?_
                refine z_iload K 4 dX3_isSame_658 rfl ?_
                refine z_icmp_ne K 674 dX3_isSame_660 (by decide) (fun h => absurd (aw_eq I hv) h) (fun _ => ?_)
                refine z_aload_n K 9 dX3_isSame_663 rfl ?_
                refine z_iload K 6 dX3_isSame_664 rfl ?_
                refine z_callVG (ws' := [(aX, .inr (2, [.ref aB, .ref aL, .ref aT, .int se])), (aB, .inr (0, [.int (nI n), .ref aB0, .ref aB1, .ref aB2, .ref aB3, .ref aB4, .ref aB5])), (aB0, .inl (cI, 20, .inl fm)), (aB1, .inl (cI, 20, .inl fb)), (aB2, .inl (cI, 20, .inl fh)), (aB3, .inl (cI, 20, .inl fp)), (aB4, .inl (cI, 20, .inl fv)), (aB5, .inl (cI, 20, .inl fa)), (aL, .inr (1, [.ref aL0, .ref aL1, .ref aL2, .ref aL3, .ref aL4, .ref aL5, .int hu])), (aL0, .inl (cI, 6, .inl lw)), (aL1, .inl (cI, 6, .inl lm)), (aL2, .inl (cI, 6, .inl lb)), (aL3, .inl (cI, 6, .inl lt)), (aL4, .inl (cI, 6, .inl la)), (aL5, .inl (cI, 6, .inl lk))] ++ simW cI cZ cQ cW u r n se hu MM HH PP BB TB MB AB PB) (st' := [.int ((pc (lm v)) + (pc (lb v)))]) (rest := []) (C := RX2) (T := TX2) (N := 4) K (m_X2_bansOf l _ D cI cZ cQ cW aX v aB aL aT se aL0 aL1 aL2 aL3 aL4 aL5 hu lm lb (by omega)) gX3_isSame_X2_bansOf rfl 1 2 (by decide +kernel) rfl dX3_isSame_666 [0, 8, 10, 11] 0 [] rfl rfl ⟨by decide, by decide⟩ ⟨by decide, by decide⟩ rfl rfl rfl rfl rfl (Nat.le_of_ble_eq_true rfl) rfl rfl rfl ?_
                refine z_iload K 3 dX3_isSame_669 rfl ?_
                refine z_icmp_eq K 676 dX3_isSame_671 (by decide) (fun _ => ?_) (fun h => absurd (bans_eq I hv) h)
                refine z_iconst (v := 0) K dX3_isSame_676 (by decide) ?_
                refine z_istore (lv' := [(8, .int 0), (10, .int (nI 12)), (9, .int 12), (7, .int (vbS AB v (vaS MB v 10) 12)), (6, .int (awP MM BB MB AB v n)), (5, .int (inS TB v n)), (4, .int (nI v)), (2, .int (suS BB n)), (0, .ref (u 0)), (1, .ref aX)]) K dX3_isSame_677 (by decide) rfl ?_
                refine z_loop (wsf := fun o => [(aX, .inr (2, [.ref aB, .ref aL, .ref aT, .int se])), (aB, .inr (0, [.int (nI n), .ref aB0, .ref aB1, .ref aB2, .ref aB3, .ref aB4, .ref aB5])), (aB0, .inl (cI, 20, .inl fm)), (aB1, .inl (cI, 20, .inl fb)), (aB2, .inl (cI, 20, .inl fh)), (aB3, .inl (cI, 20, .inl fp)), (aB4, .inl (cI, 20, .inl fv)), (aB5, .inl (cI, 20, .inl fa)), (aL, .inr (1, [.ref aL0, .ref aL1, .ref aL2, .ref aL3, .ref aL4, .ref aL5, .int hu])), (aL0, .inl (cI, 6, .inl lw)), (aL1, .inl (cI, 6, .inl lm)), (aL2, .inl (cI, 6, .inl lb)), (aL3, .inl (cI, 6, .inl lt)), (aL4, .inl (cI, 6, .inl la)), (aL5, .inl (cI, 6, .inl lk))] ++ simW cI cZ cQ cW u r n se hu MM HH PP BB TB MB AB PB) (lvf := fun o => [(8, .int (nI o)), (10, .int (nI 12)), (9, .int 12), (7, .int (vbS AB v (vaS MB v 10) 12)), (6, .int (awP MM BB MB AB v n)), (5, .int (inS TB v n)), (4, .int (nI v)), (2, .int (suS BB n)), (0, .ref (u 0)), (1, .ref aX)]) 6 rfl rfl ?_ (fun o ho iho => ?_)
                · refine z_iload K 0 dX3_isSame_679 rfl ?_
                  refine z_bipush (v := 6) K dX3_isSame_681 (by decide) ?_
                  refine z_cmpN K 715 6 6 dX3_isSame_683 (by decide) rfl rfl (by omega) (by omega) (fun _ => ?_) (fun h => absurd h (by omega))
                  refine z_iinc (lv' := [(4, .int (nI (v + 1))), (8, .int (nI 6)), (10, .int (nI 12)), (9, .int 12), (7, .int (vbS AB v (vaS MB v 10) 12)), (6, .int (awP MM BB MB AB v n)), (5, .int (inS TB v n)), (2, .int (suS BB n)), (0, .ref (u 0)), (1, .ref aX)]) (v := nI (v + 1)) K 6 dX3_isSame_715 rfl (z_inc1 v) (by decide) rfl ?_
                  refine z_goto K 459 dX3_isSame_718 (by decide) ?_
                  refine z_lv (lv' := [(4, .int (nI (v + 1))), (2, .int (suS BB n)), (0, .ref (u 0)), (1, .ref aX)]) [0, 7, 8, 9] rfl ?_
                  exact ihv
                · refine z_iload K 0 dX3_isSame_679 rfl ?_
                  refine z_bipush (v := 6) K dX3_isSame_681 (by decide) ?_
                  refine z_cmpN K 715 o 6 dX3_isSame_683 (by decide) rfl rfl (by omega) (by omega) (fun h => absurd h (by omega)) (fun _ => ?_)
                  refine z_aload_n K 9 dX3_isSame_686 rfl ?_
                  refine z_iload K 6 dX3_isSame_687 rfl ?_
                  refine z_iload K 0 dX3_isSame_689 rfl ?_
                  refine z_callVG (ws' := [(aX, .inr (2, [.ref aB, .ref aL, .ref aT, .int se])), (aB, .inr (0, [.int (nI n), .ref aB0, .ref aB1, .ref aB2, .ref aB3, .ref aB4, .ref aB5])), (aB0, .inl (cI, 20, .inl fm)), (aB1, .inl (cI, 20, .inl fb)), (aB2, .inl (cI, 20, .inl fh)), (aB3, .inl (cI, 20, .inl fp)), (aB4, .inl (cI, 20, .inl fv)), (aB5, .inl (cI, 20, .inl fa)), (aL, .inr (1, [.ref aL0, .ref aL1, .ref aL2, .ref aL3, .ref aL4, .ref aL5, .int hu])), (aL0, .inl (cI, 6, .inl lw)), (aL1, .inl (cI, 6, .inl lm)), (aL2, .inl (cI, 6, .inl lb)), (aL3, .inl (cI, 6, .inl lt)), (aL4, .inl (cI, 6, .inl la)), (aL5, .inl (cI, 6, .inl lk))] ++ simW cI cZ cQ cW u r n se hu MM HH PP BB TB MB AB PB) (st' := [.int (z_b (hs (lw v) (nI o)))]) (rest := []) (C := RX2) (T := TX2) (N := 4) K (m_X2_isOpen l _ D cI cZ cQ cW aX v o aB aL aT se aL0 aL1 aL2 aL3 aL4 aL5 hu lw (by omega) (by omega)) gX3_isSame_X2_isOpen rfl 2 2 (by decide +kernel) rfl dX3_isSame_691 [0, 8, 9] 0 [] rfl rfl ⟨by decide, by decide⟩ ⟨by decide, by decide⟩ rfl rfl rfl rfl rfl (Nat.le_of_ble_eq_true rfl) rfl rfl rfl ?_
                  refine z_aload_n K 8 dX3_isSame_694 rfl ?_
                  refine z_get (C := RX3) (T := TX3) (N := 9) (ci := 3) (v := .ref (u 6)) K iX3 rfl 15 rfl 8 (by decide) (by decide +kernel) rfl rfl dX3_isSame_695 ?_
                  refine z_iload K 6 dX3_isSame_698 rfl ?_
                  refine z_aald (y := (r 5 v)) K 21 3 v rfl rfl rfl (by omega) (by omega) (sm_ref_at (by omega)) dX3_isSame_700 ?_
                  refine z_iload K 0 dX3_isSame_701 rfl ?_
                  refine z_zald (x := (z_b (PB v o))) K _ 1 o (ga (n := 15) rfl (sw_P (by omega))) rfl (by omega) (by omega) dX3_isSame_703 rfl ?_
                  refine z_icmp_eq K 709 dX3_isSame_704 (by decide) (fun _ => ?_) (fun h => absurd (by rw [hs_bi _ (by omega), I.pb v hv o ho]) h)
                  refine z_iinc (lv' := [(8, .int (nI (o + 1))), (10, .int (nI 12)), (9, .int 12), (7, .int (vbS AB v (vaS MB v 10) 12)), (6, .int (awP MM BB MB AB v n)), (5, .int (inS TB v n)), (4, .int (nI v)), (2, .int (suS BB n)), (0, .ref (u 0)), (1, .ref aX)]) (v := nI (o + 1)) K 0 dX3_isSame_709 rfl (z_inc1 o) (by decide) rfl ?_
                  refine z_goto K 679 dX3_isSame_712 (by decide) ?_
                  exact iho
              · refine z_iload K 0 dX3_isSame_606 rfl ?_
                refine z_iload K 1 dX3_isSame_608 rfl ?_
                refine z_cmpN K 641 i 12 dX3_isSame_610 (by decide) rfl rfl (by omega) (by omega) (fun h => absurd h (by omega)) (fun _ => ?_)
                refine z_aload K 2 dX3_isSame_613 rfl ?_
                refine z_iload K 0 dX3_isSame_615 rfl ?_
                refine z_zald (x := (z_b (AB v i))) K _ 1 i (ga (n := 15) rfl (sw_A (by omega))) rfl (by omega) (by omega) dX3_isSame_617 rfl ?_
                refine z_istore (lv' := [(11, .int (z_b (AB v i))), (10, .int (nI i)), (9, .int 12), (8, .ref (r 4 v)), (7, .int (vbS AB v (vaS MB v 10) i)), (6, .int (awP MM BB MB AB v n)), (5, .int (inS TB v n)), (4, .int (nI v)), (2, .int (suS BB n)), (0, .ref (u 0)), (1, .ref aX)]) K dX3_isSame_618 (by decide) rfl ?_
                refine z_iload K 4 dX3_isSame_620 rfl ?_
                refine z_iload K 0 dX3_isSame_622 rfl ?_
                refine z_if_eqB K 631 dX3_isSame_624 (by decide) (fun c624 => ?_) (fun c624 => ?_)
                · refine z_iconst (v := 0) K dX3_isSame_631 (by decide) ?_
                  refine z_iadd K dX3_isSame_632 ?_
                  refine z_istore (lv' := [(7, .int ((vbS AB v (vaS MB v 10) i) + 0)), (11, .int (z_b (AB v i))), (10, .int (nI i)), (9, .int 12), (8, .ref (r 4 v)), (6, .int (awP MM BB MB AB v n)), (5, .int (inS TB v n)), (4, .int (nI v)), (2, .int (suS BB n)), (0, .ref (u 0)), (1, .ref aX)]) K dX3_isSame_633 (by decide) rfl ?_
                  refine z_iinc (lv' := [(10, .int (nI (i + 1))), (7, .int ((vbS AB v (vaS MB v 10) i) + 0)), (11, .int (z_b (AB v i))), (9, .int 12), (8, .ref (r 4 v)), (6, .int (awP MM BB MB AB v n)), (5, .int (inS TB v n)), (4, .int (nI v)), (2, .int (suS BB n)), (0, .ref (u 0)), (1, .ref aX)]) (v := nI (i + 1)) K 2 dX3_isSame_635 rfl (z_inc1 i) (by decide) rfl ?_
                  refine z_goto K 606 dX3_isSame_638 (by decide) ?_
                  refine z_lv (lv' := [(10, .int (nI (i + 1))), (9, .int 12), (8, .ref (r 4 v)), (7, .int ((vbS AB v (vaS MB v 10) i) + 0)), (6, .int (awP MM BB MB AB v n)), (5, .int (inS TB v n)), (4, .int (nI v)), (2, .int (suS BB n)), (0, .ref (u 0)), (1, .ref aX)]) [0, 3, 4, 1, 5, 6, 7, 8, 9, 10] rfl ?_
                  rw [show (vbS AB v (vaS MB v 10) (i + 1)) = ((vbS AB v (vaS MB v 10) i) + 0) from (by first | (simp only [chP2_succ, suS_succ, wtI_succ, wtO_succ, inS_succ, awP_succ, vaS_succ, vbS_succ, z_b, c624, Bool.false_eq_true, if_false, if_true, ↓reduceIte]; done) | rfl | simp [chP2_succ, suS_succ, wtI_succ, wtO_succ, inS_succ, awP_succ, vaS_succ, vbS_succ, z_b, c624])] at ihi
                  exact ihi
                · refine z_iconst (v := 1) K dX3_isSame_627 (by decide) ?_
                  refine z_goto K 632 dX3_isSame_628 (by decide) ?_
                  refine z_iadd K dX3_isSame_632 ?_
                  refine z_istore (lv' := [(7, .int ((vbS AB v (vaS MB v 10) i) + 1)), (11, .int (z_b (AB v i))), (10, .int (nI i)), (9, .int 12), (8, .ref (r 4 v)), (6, .int (awP MM BB MB AB v n)), (5, .int (inS TB v n)), (4, .int (nI v)), (2, .int (suS BB n)), (0, .ref (u 0)), (1, .ref aX)]) K dX3_isSame_633 (by decide) rfl ?_
                  refine z_iinc (lv' := [(10, .int (nI (i + 1))), (7, .int ((vbS AB v (vaS MB v 10) i) + 1)), (11, .int (z_b (AB v i))), (9, .int 12), (8, .ref (r 4 v)), (6, .int (awP MM BB MB AB v n)), (5, .int (inS TB v n)), (4, .int (nI v)), (2, .int (suS BB n)), (0, .ref (u 0)), (1, .ref aX)]) (v := nI (i + 1)) K 2 dX3_isSame_635 rfl (z_inc1 i) (by decide) rfl ?_
                  refine z_goto K 606 dX3_isSame_638 (by decide) ?_
                  refine z_lv (lv' := [(10, .int (nI (i + 1))), (9, .int 12), (8, .ref (r 4 v)), (7, .int ((vbS AB v (vaS MB v 10) i) + 1)), (6, .int (awP MM BB MB AB v n)), (5, .int (inS TB v n)), (4, .int (nI v)), (2, .int (suS BB n)), (0, .ref (u 0)), (1, .ref aX)]) [0, 3, 4, 1, 5, 6, 7, 8, 9, 10] rfl ?_
                  rw [show (vbS AB v (vaS MB v 10) (i + 1)) = ((vbS AB v (vaS MB v 10) i) + 1) from (by first | (simp only [chP2_succ, suS_succ, wtI_succ, wtO_succ, inS_succ, awP_succ, vaS_succ, vbS_succ, z_b, c624, Bool.false_eq_true, if_false, if_true, ↓reduceIte]; done) | rfl | simp [chP2_succ, suS_succ, wtI_succ, wtO_succ, inS_succ, awP_succ, vaS_succ, vbS_succ, z_b, c624])] at ihi
                  exact ihi
            · refine z_iload K 0 dX3_isSame_554 rfl ?_
              refine z_iload K 1 dX3_isSame_556 rfl ?_
              refine z_cmpN K 589 i 10 dX3_isSame_558 (by decide) rfl rfl (by omega) (by omega) (fun h => absurd h (by omega)) (fun _ => ?_)
              refine z_aload K 2 dX3_isSame_561 rfl ?_
              refine z_iload K 0 dX3_isSame_563 rfl ?_
              refine z_zald (x := (z_b (MB v i))) K _ 1 i (ga (n := 15) rfl (sw_M (by omega))) rfl (by omega) (by omega) dX3_isSame_565 rfl ?_
              refine z_istore (lv' := [(11, .int (z_b (MB v i))), (10, .int (nI i)), (9, .int 10), (8, .ref (r 3 v)), (7, .int (vaS MB v i)), (6, .int (awP MM BB MB AB v n)), (5, .int (inS TB v n)), (4, .int (nI v)), (2, .int (suS BB n)), (0, .ref (u 0)), (1, .ref aX)]) K dX3_isSame_566 (by decide) rfl ?_
              refine z_iload K 4 dX3_isSame_568 rfl ?_
              refine z_iload K 0 dX3_isSame_570 rfl ?_
              refine z_if_eqB K 579 dX3_isSame_572 (by decide) (fun c572 => ?_) (fun c572 => ?_)
              · refine z_iconst (v := 0) K dX3_isSame_579 (by decide) ?_
                refine z_iadd K dX3_isSame_580 ?_
                refine z_istore (lv' := [(7, .int ((vaS MB v i) + 0)), (11, .int (z_b (MB v i))), (10, .int (nI i)), (9, .int 10), (8, .ref (r 3 v)), (6, .int (awP MM BB MB AB v n)), (5, .int (inS TB v n)), (4, .int (nI v)), (2, .int (suS BB n)), (0, .ref (u 0)), (1, .ref aX)]) K dX3_isSame_581 (by decide) rfl ?_
                refine z_iinc (lv' := [(10, .int (nI (i + 1))), (7, .int ((vaS MB v i) + 0)), (11, .int (z_b (MB v i))), (9, .int 10), (8, .ref (r 3 v)), (6, .int (awP MM BB MB AB v n)), (5, .int (inS TB v n)), (4, .int (nI v)), (2, .int (suS BB n)), (0, .ref (u 0)), (1, .ref aX)]) (v := nI (i + 1)) K 2 dX3_isSame_583 rfl (z_inc1 i) (by decide) rfl ?_
                refine z_goto K 554 dX3_isSame_586 (by decide) ?_
                refine z_lv (lv' := [(10, .int (nI (i + 1))), (9, .int 10), (8, .ref (r 3 v)), (7, .int ((vaS MB v i) + 0)), (6, .int (awP MM BB MB AB v n)), (5, .int (inS TB v n)), (4, .int (nI v)), (2, .int (suS BB n)), (0, .ref (u 0)), (1, .ref aX)]) [0, 3, 4, 1, 5, 6, 7, 8, 9, 10] rfl ?_
                rw [show (vaS MB v (i + 1)) = ((vaS MB v i) + 0) from (by first | (simp only [chP2_succ, suS_succ, wtI_succ, wtO_succ, inS_succ, awP_succ, vaS_succ, vbS_succ, z_b, c572, Bool.false_eq_true, if_false, if_true, ↓reduceIte]; done) | rfl | simp [chP2_succ, suS_succ, wtI_succ, wtO_succ, inS_succ, awP_succ, vaS_succ, vbS_succ, z_b, c572])] at ihi
                exact ihi
              · refine z_iconst (v := 1) K dX3_isSame_575 (by decide) ?_
                refine z_goto K 580 dX3_isSame_576 (by decide) ?_
                refine z_iadd K dX3_isSame_580 ?_
                refine z_istore (lv' := [(7, .int ((vaS MB v i) + 1)), (11, .int (z_b (MB v i))), (10, .int (nI i)), (9, .int 10), (8, .ref (r 3 v)), (6, .int (awP MM BB MB AB v n)), (5, .int (inS TB v n)), (4, .int (nI v)), (2, .int (suS BB n)), (0, .ref (u 0)), (1, .ref aX)]) K dX3_isSame_581 (by decide) rfl ?_
                refine z_iinc (lv' := [(10, .int (nI (i + 1))), (7, .int ((vaS MB v i) + 1)), (11, .int (z_b (MB v i))), (9, .int 10), (8, .ref (r 3 v)), (6, .int (awP MM BB MB AB v n)), (5, .int (inS TB v n)), (4, .int (nI v)), (2, .int (suS BB n)), (0, .ref (u 0)), (1, .ref aX)]) (v := nI (i + 1)) K 2 dX3_isSame_583 rfl (z_inc1 i) (by decide) rfl ?_
                refine z_goto K 554 dX3_isSame_586 (by decide) ?_
                refine z_lv (lv' := [(10, .int (nI (i + 1))), (9, .int 10), (8, .ref (r 3 v)), (7, .int ((vaS MB v i) + 1)), (6, .int (awP MM BB MB AB v n)), (5, .int (inS TB v n)), (4, .int (nI v)), (2, .int (suS BB n)), (0, .ref (u 0)), (1, .ref aX)]) [0, 3, 4, 1, 5, 6, 7, 8, 9, 10] rfl ?_
                rw [show (vaS MB v (i + 1)) = ((vaS MB v i) + 1) from (by first | (simp only [chP2_succ, suS_succ, wtI_succ, wtO_succ, inS_succ, awP_succ, vaS_succ, vbS_succ, z_b, c572, Bool.false_eq_true, if_false, if_true, ↓reduceIte]; done) | rfl | simp [chP2_succ, suS_succ, wtI_succ, wtO_succ, inS_succ, awP_succ, vaS_succ, vbS_succ, z_b, c572])] at ihi
                exact ihi
          · refine z_iload K 0 dX3_isSame_478 rfl ?_
            refine z_aload_n K 6 dX3_isSame_480 rfl ?_
            refine z_get (C := RX3) (T := TX3) (N := 9) (ci := 3) (v := .int (nI n)) K iX3 rfl 15 rfl 0 (by decide) (by decide +kernel) rfl rfl dX3_isSame_481 ?_
            refine z_cmpN K 537 f n dX3_isSame_484 (by decide) rfl rfl (by omega) (by omega) (fun h => absurd h (by omega)) (fun _ => ?_)
            refine z_iload K 3 dX3_isSame_487 rfl ?_
            refine z_aload_n K 6 dX3_isSame_489 rfl ?_
            refine z_get (C := RX3) (T := TX3) (N := 9) (ci := 3) (v := .ref (u 3)) K iX3 rfl 15 rfl 5 (by decide) (by decide +kernel) rfl rfl dX3_isSame_490 ?_
            refine z_iload K 0 dX3_isSame_493 rfl ?_
            refine z_aald (y := (r 2 f)) K 18 3 f rfl rfl rfl (by omega) (by omega) (sm_ref_at (by omega)) dX3_isSame_495 ?_
            refine z_iload K 4 dX3_isSame_496 rfl ?_
            refine z_zald (x := (z_b (TB f v))) K _ 1 v (ga (n := 15) rfl (sw_O (by omega))) rfl (by omega) (by omega) dX3_isSame_498 rfl ?_
            refine z_if_eqB K 506 dX3_isSame_499 (by decide) (fun c499 => ?_) (fun c499 => ?_)
            · refine z_iconst (v := 0) K dX3_isSame_506 (by decide) ?_
              refine z_iadd K dX3_isSame_507 ?_
              refine z_istore (lv' := [(5, .int ((inS TB v f) + 0)), (8, .int (nI f)), (7, .int 0), (6, .int (awP MM BB MB AB v f)), (4, .int (nI v)), (2, .int (suS BB n)), (0, .ref (u 0)), (1, .ref aX)]) K dX3_isSame_508 (by decide) rfl ?_
              refine z_iload K 3 dX3_isSame_510 rfl ?_
              refine z_aload_n K 6 dX3_isSame_512 rfl ?_
              refine z_iload K 1 dX3_isSame_513 rfl ?_
              refine z_iload K 4 dX3_isSame_515 rfl ?_
              refine z_cV (st' := [.int (z_b (bnS MM BB MB AB f v 12)), .int (awP MM BB MB AB v f)]) (rest := [.int (awP MM BB MB AB v f)]) (C := RX3) (T := TX3) (N := 9) (q0 := 15) K (m_X3_isBanned l _ D cI cZ cQ cW u f v r n se hu MM HH PP BB TB MB AB PB (hn) (hMM) (by omega) (by omega)) gX3_isSame_X3_isBanned rfl 2 3 (by decide +kernel) rfl dX3_isSame_517 (List.sublist_append_right _ _) rfl rfl ⟨by decide, by decide⟩ ⟨by decide, by decide⟩ rfl rfl rfl (Nat.le_of_ble_eq_true rfl) rfl ?_
              refine z_if_eqB K 527 dX3_isSame_520 (by decide) (fun c520 => ?_) (fun c520 => ?_)
              · refine z_iconst (v := 1) K dX3_isSame_527 (by decide) ?_
                refine z_iadd K dX3_isSame_528 ?_
                refine z_istore (lv' := [(6, .int ((awP MM BB MB AB v f) + 1)), (5, .int ((inS TB v f) + 0)), (8, .int (nI f)), (7, .int 0), (4, .int (nI v)), (2, .int (suS BB n)), (0, .ref (u 0)), (1, .ref aX)]) K dX3_isSame_529 (by decide) rfl ?_
                refine z_iinc (lv' := [(8, .int (nI (f + 1))), (6, .int ((awP MM BB MB AB v f) + 1)), (5, .int ((inS TB v f) + 0)), (7, .int 0), (4, .int (nI v)), (2, .int (suS BB n)), (0, .ref (u 0)), (1, .ref aX)]) (v := nI (f + 1)) K 2 dX3_isSame_531 rfl (z_inc1 f) (by decide) rfl ?_
                refine z_goto K 478 dX3_isSame_534 (by decide) ?_
                refine z_lv (lv' := [(8, .int (nI (f + 1))), (7, .int 0), (6, .int ((awP MM BB MB AB v f) + 1)), (5, .int ((inS TB v f) + 0)), (4, .int (nI v)), (2, .int (suS BB n)), (0, .ref (u 0)), (1, .ref aX)]) [0, 3, 1, 2, 4, 5, 6, 7] rfl ?_
                rw [show (awP MM BB MB AB v (f + 1)) = ((awP MM BB MB AB v f) + 1) from (by first | (simp only [chP2_succ, suS_succ, wtI_succ, wtO_succ, inS_succ, awP_succ, vaS_succ, vbS_succ, z_b, c499, c520, Bool.false_eq_true, if_false, if_true, ↓reduceIte]; done) | rfl | simp [chP2_succ, suS_succ, wtI_succ, wtO_succ, inS_succ, awP_succ, vaS_succ, vbS_succ, z_b, c499, c520])] at ihf
                rw [show (inS TB v (f + 1)) = ((inS TB v f) + 0) from (by first | (simp only [chP2_succ, suS_succ, wtI_succ, wtO_succ, inS_succ, awP_succ, vaS_succ, vbS_succ, z_b, c499, c520, Bool.false_eq_true, if_false, if_true, ↓reduceIte]; done) | rfl | simp [chP2_succ, suS_succ, wtI_succ, wtO_succ, inS_succ, awP_succ, vaS_succ, vbS_succ, z_b, c499, c520])] at ihf
                exact ihf
              · refine z_iconst (v := 0) K dX3_isSame_523 (by decide) ?_
                refine z_goto K 528 dX3_isSame_524 (by decide) ?_
                refine z_iadd K dX3_isSame_528 ?_
                refine z_istore (lv' := [(6, .int ((awP MM BB MB AB v f) + 0)), (5, .int ((inS TB v f) + 0)), (8, .int (nI f)), (7, .int 0), (4, .int (nI v)), (2, .int (suS BB n)), (0, .ref (u 0)), (1, .ref aX)]) K dX3_isSame_529 (by decide) rfl ?_
                refine z_iinc (lv' := [(8, .int (nI (f + 1))), (6, .int ((awP MM BB MB AB v f) + 0)), (5, .int ((inS TB v f) + 0)), (7, .int 0), (4, .int (nI v)), (2, .int (suS BB n)), (0, .ref (u 0)), (1, .ref aX)]) (v := nI (f + 1)) K 2 dX3_isSame_531 rfl (z_inc1 f) (by decide) rfl ?_
                refine z_goto K 478 dX3_isSame_534 (by decide) ?_
                refine z_lv (lv' := [(8, .int (nI (f + 1))), (7, .int 0), (6, .int ((awP MM BB MB AB v f) + 0)), (5, .int ((inS TB v f) + 0)), (4, .int (nI v)), (2, .int (suS BB n)), (0, .ref (u 0)), (1, .ref aX)]) [0, 3, 1, 2, 4, 5, 6, 7] rfl ?_
                rw [show (awP MM BB MB AB v (f + 1)) = ((awP MM BB MB AB v f) + 0) from (by first | (simp only [chP2_succ, suS_succ, wtI_succ, wtO_succ, inS_succ, awP_succ, vaS_succ, vbS_succ, z_b, c499, c520, Bool.false_eq_true, if_false, if_true, ↓reduceIte]; done) | rfl | simp [chP2_succ, suS_succ, wtI_succ, wtO_succ, inS_succ, awP_succ, vaS_succ, vbS_succ, z_b, c499, c520])] at ihf
                rw [show (inS TB v (f + 1)) = ((inS TB v f) + 0) from (by first | (simp only [chP2_succ, suS_succ, wtI_succ, wtO_succ, inS_succ, awP_succ, vaS_succ, vbS_succ, z_b, c499, c520, Bool.false_eq_true, if_false, if_true, ↓reduceIte]; done) | rfl | simp [chP2_succ, suS_succ, wtI_succ, wtO_succ, inS_succ, awP_succ, vaS_succ, vbS_succ, z_b, c499, c520])] at ihf
                exact ihf
            · refine z_iconst (v := 1) K dX3_isSame_502 (by decide) ?_
              refine z_goto K 507 dX3_isSame_503 (by decide) ?_
              refine z_iadd K dX3_isSame_507 ?_
              refine z_istore (lv' := [(5, .int ((inS TB v f) + 1)), (8, .int (nI f)), (7, .int 0), (6, .int (awP MM BB MB AB v f)), (4, .int (nI v)), (2, .int (suS BB n)), (0, .ref (u 0)), (1, .ref aX)]) K dX3_isSame_508 (by decide) rfl ?_
              refine z_iload K 3 dX3_isSame_510 rfl ?_
              refine z_aload_n K 6 dX3_isSame_512 rfl ?_
              refine z_iload K 1 dX3_isSame_513 rfl ?_
              refine z_iload K 4 dX3_isSame_515 rfl ?_
              refine z_cV (st' := [.int (z_b (bnS MM BB MB AB f v 12)), .int (awP MM BB MB AB v f)]) (rest := [.int (awP MM BB MB AB v f)]) (C := RX3) (T := TX3) (N := 9) (q0 := 15) K (m_X3_isBanned l _ D cI cZ cQ cW u f v r n se hu MM HH PP BB TB MB AB PB (hn) (hMM) (by omega) (by omega)) gX3_isSame_X3_isBanned rfl 2 3 (by decide +kernel) rfl dX3_isSame_517 (List.sublist_append_right _ _) rfl rfl ⟨by decide, by decide⟩ ⟨by decide, by decide⟩ rfl rfl rfl (Nat.le_of_ble_eq_true rfl) rfl ?_
              refine z_if_eqB K 527 dX3_isSame_520 (by decide) (fun c520 => ?_) (fun c520 => ?_)
              · refine z_iconst (v := 1) K dX3_isSame_527 (by decide) ?_
                refine z_iadd K dX3_isSame_528 ?_
                refine z_istore (lv' := [(6, .int ((awP MM BB MB AB v f) + 1)), (5, .int ((inS TB v f) + 1)), (8, .int (nI f)), (7, .int 0), (4, .int (nI v)), (2, .int (suS BB n)), (0, .ref (u 0)), (1, .ref aX)]) K dX3_isSame_529 (by decide) rfl ?_
                refine z_iinc (lv' := [(8, .int (nI (f + 1))), (6, .int ((awP MM BB MB AB v f) + 1)), (5, .int ((inS TB v f) + 1)), (7, .int 0), (4, .int (nI v)), (2, .int (suS BB n)), (0, .ref (u 0)), (1, .ref aX)]) (v := nI (f + 1)) K 2 dX3_isSame_531 rfl (z_inc1 f) (by decide) rfl ?_
                refine z_goto K 478 dX3_isSame_534 (by decide) ?_
                refine z_lv (lv' := [(8, .int (nI (f + 1))), (7, .int 0), (6, .int ((awP MM BB MB AB v f) + 1)), (5, .int ((inS TB v f) + 1)), (4, .int (nI v)), (2, .int (suS BB n)), (0, .ref (u 0)), (1, .ref aX)]) [0, 3, 1, 2, 4, 5, 6, 7] rfl ?_
                rw [show (awP MM BB MB AB v (f + 1)) = ((awP MM BB MB AB v f) + 1) from (by first | (simp only [chP2_succ, suS_succ, wtI_succ, wtO_succ, inS_succ, awP_succ, vaS_succ, vbS_succ, z_b, c499, c520, Bool.false_eq_true, if_false, if_true, ↓reduceIte]; done) | rfl | simp [chP2_succ, suS_succ, wtI_succ, wtO_succ, inS_succ, awP_succ, vaS_succ, vbS_succ, z_b, c499, c520])] at ihf
                rw [show (inS TB v (f + 1)) = ((inS TB v f) + 1) from (by first | (simp only [chP2_succ, suS_succ, wtI_succ, wtO_succ, inS_succ, awP_succ, vaS_succ, vbS_succ, z_b, c499, c520, Bool.false_eq_true, if_false, if_true, ↓reduceIte]; done) | rfl | simp [chP2_succ, suS_succ, wtI_succ, wtO_succ, inS_succ, awP_succ, vaS_succ, vbS_succ, z_b, c499, c520])] at ihf
                exact ihf
              · refine z_iconst (v := 0) K dX3_isSame_523 (by decide) ?_
                refine z_goto K 528 dX3_isSame_524 (by decide) ?_
                refine z_iadd K dX3_isSame_528 ?_
                refine z_istore (lv' := [(6, .int ((awP MM BB MB AB v f) + 0)), (5, .int ((inS TB v f) + 1)), (8, .int (nI f)), (7, .int 0), (4, .int (nI v)), (2, .int (suS BB n)), (0, .ref (u 0)), (1, .ref aX)]) K dX3_isSame_529 (by decide) rfl ?_
                refine z_iinc (lv' := [(8, .int (nI (f + 1))), (6, .int ((awP MM BB MB AB v f) + 0)), (5, .int ((inS TB v f) + 1)), (7, .int 0), (4, .int (nI v)), (2, .int (suS BB n)), (0, .ref (u 0)), (1, .ref aX)]) (v := nI (f + 1)) K 2 dX3_isSame_531 rfl (z_inc1 f) (by decide) rfl ?_
                refine z_goto K 478 dX3_isSame_534 (by decide) ?_
                refine z_lv (lv' := [(8, .int (nI (f + 1))), (7, .int 0), (6, .int ((awP MM BB MB AB v f) + 0)), (5, .int ((inS TB v f) + 1)), (4, .int (nI v)), (2, .int (suS BB n)), (0, .ref (u 0)), (1, .ref aX)]) [0, 3, 1, 2, 4, 5, 6, 7] rfl ?_
                rw [show (awP MM BB MB AB v (f + 1)) = ((awP MM BB MB AB v f) + 0) from (by first | (simp only [chP2_succ, suS_succ, wtI_succ, wtO_succ, inS_succ, awP_succ, vaS_succ, vbS_succ, z_b, c499, c520, Bool.false_eq_true, if_false, if_true, ↓reduceIte]; done) | rfl | simp [chP2_succ, suS_succ, wtI_succ, wtO_succ, inS_succ, awP_succ, vaS_succ, vbS_succ, z_b, c499, c520])] at ihf
                rw [show (inS TB v (f + 1)) = ((inS TB v f) + 1) from (by first | (simp only [chP2_succ, suS_succ, wtI_succ, wtO_succ, inS_succ, awP_succ, vaS_succ, vbS_succ, z_b, c499, c520, Bool.false_eq_true, if_false, if_true, ↓reduceIte]; done) | rfl | simp [chP2_succ, suS_succ, wtI_succ, wtO_succ, inS_succ, awP_succ, vaS_succ, vbS_succ, z_b, c499, c520])] at ihf
                exact ihf
      · refine z_iload K 0 dX3_isSame_425 rfl ?_
        refine z_bipush (v := 12) K dX3_isSame_427 (by decide) ?_
        refine z_cmpN K 456 b 12 dX3_isSame_429 (by decide) rfl rfl (by omega) (by omega) (fun h => absurd h (by omega)) (fun _ => ?_)
        refine z_aload_n K 4 dX3_isSame_432 rfl ?_
        refine z_iload K 0 dX3_isSame_433 rfl ?_
        refine z_callVG (ws' := [(q79, .inl (cI, 22, .inl (wtO MM BB n))), (aX, .inr (2, [.ref aB, .ref aL, .ref aT, .int se])), (aB, .inr (0, [.int (nI n), .ref aB0, .ref aB1, .ref aB2, .ref aB3, .ref aB4, .ref aB5])), (aB0, .inl (cI, 20, .inl fm)), (aB1, .inl (cI, 20, .inl fb)), (aB2, .inl (cI, 20, .inl fh)), (aB3, .inl (cI, 20, .inl fp)), (aB4, .inl (cI, 20, .inl fv)), (aB5, .inl (cI, 20, .inl fa)), (aL, .inr (1, [.ref aL0, .ref aL1, .ref aL2, .ref aL3, .ref aL4, .ref aL5, .int hu])), (aL0, .inl (cI, 6, .inl lw)), (aL1, .inl (cI, 6, .inl lm)), (aL2, .inl (cI, 6, .inl lb)), (aL3, .inl (cI, 6, .inl lt)), (aL4, .inl (cI, 6, .inl la)), (aL5, .inl (cI, 6, .inl lk))] ++ simW cI cZ cQ cW u r n se hu MM HH PP BB TB MB AB PB) (st' := [.int (pc (wbS fb (nI b) n))]) (rest := []) (C := RX2) (T := TX2) (N := 4) K (m_X2_fablesWithBeast l _ D cI cZ cQ cW aX b aB aL aT se n aB0 aB1 aB2 aB3 aB4 aB5 fb (by omega) (by omega)) gX3_isSame_X2_fablesWithBeast rfl 1 2 (by decide +kernel) rfl dX3_isSame_435 [1, 2, 4] 1 [] rfl rfl ⟨by decide, by decide⟩ ⟨by decide, by decide⟩ rfl rfl rfl rfl rfl (Nat.le_of_ble_eq_true rfl) rfl rfl rfl ?_
        refine z_aload_n K 1 dX3_isSame_438 rfl ?_
        refine z_bipush (v := 10) K dX3_isSame_439 (by decide) ?_
        refine z_iload K 0 dX3_isSame_441 rfl ?_
        refine z_iadd K dX3_isSame_443 ?_
        refine z_st (st' := [.int (nI (10 + b)), .ref q79, .int (pc (wbS fb (nI b) n))]) (by rw [← nI_add 10 b]; rfl) ?_
        refine z_ialdN K 0 0 (10 + b) (by omega) (by omega) rfl rfl dX3_isSame_444 ?_
        refine z_icmp_eq K 450 dX3_isSame_445 (by decide) (fun _ => ?_) (fun h => absurd (wb_eq I hb) h)
        refine z_iinc (lv' := [(4, .int (nI (b + 1))), (3, .ref q79), (2, .int (suS BB n)), (0, .ref (u 0)), (1, .ref aX)]) (v := nI (b + 1)) K 0 dX3_isSame_450 rfl (z_inc1 b) (by decide) rfl ?_
        refine z_goto K 425 dX3_isSame_453 (by decide) ?_
        exact ihb
    · refine z_iload K 0 dX3_isSame_394 rfl ?_
      refine z_bipush (v := 10) K dX3_isSame_396 (by decide) ?_
      refine z_cmpN K 422 mo 10 dX3_isSame_398 (by decide) rfl rfl (by omega) (by omega) (fun h => absurd h (by omega)) (fun _ => ?_)
      refine z_aload_n K 4 dX3_isSame_401 rfl ?_
      refine z_iload K 0 dX3_isSame_402 rfl ?_
      refine z_callVG (ws' := [(q79, .inl (cI, 22, .inl (wtO MM BB n))), (aX, .inr (2, [.ref aB, .ref aL, .ref aT, .int se])), (aB, .inr (0, [.int (nI n), .ref aB0, .ref aB1, .ref aB2, .ref aB3, .ref aB4, .ref aB5])), (aB0, .inl (cI, 20, .inl fm)), (aB1, .inl (cI, 20, .inl fb)), (aB2, .inl (cI, 20, .inl fh)), (aB3, .inl (cI, 20, .inl fp)), (aB4, .inl (cI, 20, .inl fv)), (aB5, .inl (cI, 20, .inl fa)), (aL, .inr (1, [.ref aL0, .ref aL1, .ref aL2, .ref aL3, .ref aL4, .ref aL5, .int hu])), (aL0, .inl (cI, 6, .inl lw)), (aL1, .inl (cI, 6, .inl lm)), (aL2, .inl (cI, 6, .inl lb)), (aL3, .inl (cI, 6, .inl lt)), (aL4, .inl (cI, 6, .inl la)), (aL5, .inl (cI, 6, .inl lk))] ++ simW cI cZ cQ cW u r n se hu MM HH PP BB TB MB AB PB) (st' := [.int (pc (wmS fm (nI mo) n))]) (rest := []) (C := RX2) (T := TX2) (N := 4) K (m_X2_fablesWithMoral l _ D cI cZ cQ cW aX mo aB aL aT se n aB0 aB1 aB2 aB3 aB4 aB5 fm (by omega) (by omega)) gX3_isSame_X2_fablesWithMoral rfl 1 2 (by decide +kernel) rfl dX3_isSame_404 [1, 2, 3] 1 [] rfl rfl ⟨by decide, by decide⟩ ⟨by decide, by decide⟩ rfl rfl rfl rfl rfl (Nat.le_of_ble_eq_true rfl) rfl rfl rfl ?_
      refine z_aload_n K 1 dX3_isSame_407 rfl ?_
      refine z_iload K 0 dX3_isSame_408 rfl ?_
      refine z_ialdN K 0 0 mo (by omega) (by omega) rfl rfl dX3_isSame_410 ?_
      refine z_icmp_eq K 416 dX3_isSame_411 (by decide) (fun _ => ?_) (fun h => absurd (wm_eq I hmo) h)
      refine z_iinc (lv' := [(4, .int (nI (mo + 1))), (3, .ref q79), (2, .int (suS BB n)), (0, .ref (u 0)), (1, .ref aX)]) (v := nI (mo + 1)) K 0 dX3_isSame_416 rfl (z_inc1 mo) (by decide) rfl ?_
      refine z_goto K 394 dX3_isSame_419 (by decide) ?_
      exact ihmo
  · refine z_iload K 0 dX3_isSame_85 rfl ?_
    refine z_aload_n K 3 dX3_isSame_87 rfl ?_
    refine z_get (C := RX3) (T := TX3) (N := 9) (ci := 3) (v := .int (nI n)) K iX3 rfl 16 rfl 0 (by decide) (by decide +kernel) rfl rfl dX3_isSame_88 ?_
    refine z_cmpN K 391 f n dX3_isSame_91 (by decide) rfl rfl (by omega) (by omega) (fun h => absurd h (by omega)) (fun _ => ?_)
    refine z_iconst (v := 0) K dX3_isSame_94 (by decide) ?_
    refine z_istore (lv' := [(5, .int 0), (4, .int (nI f)), (3, .ref q79), (2, .int (suS BB f)), (0, .ref (u 0)), (1, .ref aX)]) K dX3_isSame_95 (by decide) rfl ?_
    refine z_iconst (v := 0) K dX3_isSame_97 (by decide) ?_
    refine z_istore (lv' := [(6, .int 0), (5, .int 0), (4, .int (nI f)), (3, .ref q79), (2, .int (suS BB f)), (0, .ref (u 0)), (1, .ref aX)]) K dX3_isSame_98 (by decide) rfl ?_
    refine z_loop (wsf := fun k => [(q79, .inl (cI, 22, .inl (wtO MM BB f))), (aX, .inr (2, [.ref aB, .ref aL, .ref aT, .int se])), (aB, .inr (0, [.int (nI n), .ref aB0, .ref aB1, .ref aB2, .ref aB3, .ref aB4, .ref aB5])), (aB0, .inl (cI, 20, .inl fm)), (aB1, .inl (cI, 20, .inl fb)), (aB2, .inl (cI, 20, .inl fh)), (aB3, .inl (cI, 20, .inl fp)), (aB4, .inl (cI, 20, .inl fv)), (aB5, .inl (cI, 20, .inl fa)), (aL, .inr (1, [.ref aL0, .ref aL1, .ref aL2, .ref aL3, .ref aL4, .ref aL5, .int hu])), (aL0, .inl (cI, 6, .inl lw)), (aL1, .inl (cI, 6, .inl lm)), (aL2, .inl (cI, 6, .inl lb)), (aL3, .inl (cI, 6, .inl lt)), (aL4, .inl (cI, 6, .inl la)), (aL5, .inl (cI, 6, .inl lk))] ++ simW cI cZ cQ cW u r n se hu MM HH PP BB TB MB AB PB) (lvf := fun k => [(6, .int (nI k)), (5, .int (chP2 PP f k)), (4, .int (nI f)), (3, .ref q79), (2, .int (suS BB f)), (0, .ref (u 0)), (1, .ref aX)]) n (by first | (simp only [chP2_0]; done) | (simp only [chP2_0]; rfl) | rfl) (by first | (simp only [chP2_0]; done) | (simp only [chP2_0]; rfl) | rfl) ?_ (fun k hk ihk => ?_)
    · refine z_iload K 0 dX3_isSame_100 rfl ?_
      refine z_aload_n K 5 dX3_isSame_102 rfl ?_
      refine z_get (C := RX3) (T := TX3) (N := 9) (ci := 3) (v := .int (nI n)) K iX3 rfl 16 rfl 0 (by decide) (by decide +kernel) rfl rfl dX3_isSame_103 ?_
      refine z_cmpN K 139 n n dX3_isSame_106 (by decide) rfl rfl (by omega) (by omega) (fun _ => ?_) (fun h => absurd h (by omega))
      refine z_aload_n K 6 dX3_isSame_139 rfl ?_
      refine z_iload K 2 dX3_isSame_140 rfl ?_
      refine z_callVG (ws' := [(q79, .inl (cI, 22, .inl (wtO MM BB f))), (aX, .inr (2, [.ref aB, .ref aL, .ref aT, .int se])), (aB, .inr (0, [.int (nI n), .ref aB0, .ref aB1, .ref aB2, .ref aB3, .ref aB4, .ref aB5])), (aB0, .inl (cI, 20, .inl fm)), (aB1, .inl (cI, 20, .inl fb)), (aB2, .inl (cI, 20, .inl fh)), (aB3, .inl (cI, 20, .inl fp)), (aB4, .inl (cI, 20, .inl fv)), (aB5, .inl (cI, 20, .inl fa)), (aL, .inr (1, [.ref aL0, .ref aL1, .ref aL2, .ref aL3, .ref aL4, .ref aL5, .int hu])), (aL0, .inl (cI, 6, .inl lw)), (aL1, .inl (cI, 6, .inl lm)), (aL2, .inl (cI, 6, .inl lb)), (aL3, .inl (cI, 6, .inl lt)), (aL4, .inl (cI, 6, .inl la)), (aL5, .inl (cI, 6, .inl lk))] ++ simW cI cZ cQ cW u r n se hu MM HH PP BB TB MB AB PB) (st' := [.int (fm f)]) (rest := []) (C := RX2) (T := TX2) (N := 4) K (m_X2_moralOf l _ D cI cZ cQ cW aX f aB aL aT se n aB0 aB1 aB2 aB3 aB4 aB5 fm (by omega) (by omega)) gX3_isSame_X2_moralOf rfl 1 2 (by decide +kernel) rfl dX3_isSame_142 [1, 2, 3] 1 [] rfl rfl ⟨by decide, by decide⟩ ⟨by decide, by decide⟩ rfl rfl rfl rfl rfl (Nat.le_of_ble_eq_true rfl) rfl rfl rfl ?_
      refine z_aload_n K 5 dX3_isSame_145 rfl ?_
      refine z_get (C := RX3) (T := TX3) (N := 9) (ci := 3) (v := .ref (u 1)) K iX3 rfl 16 rfl 3 (by decide) (by decide +kernel) rfl rfl dX3_isSame_146 ?_
      refine z_iload K 2 dX3_isSame_149 rfl ?_
      refine z_aald (y := (r 0 f)) K 17 2 f rfl rfl rfl (by omega) (by omega) (sm_ref_at (by omega)) dX3_isSame_151 ?_
      refine z_iconst (v := 0) K dX3_isSame_152 (by decide) ?_
      refine z_ialdX (x := (nI (MM f))) K 0 0 rfl (by omega) (by omega) (ga (n := 16) rfl (sw_F (by omega))) rfl dX3_isSame_153 ?_
      refine z_icmp_ne K 234 dX3_isSame_154 (by decide) (fun h => absurd ((I.row f hf).1) h) (fun _ => ?_)
      refine z_aload_n K 6 dX3_isSame_157 rfl ?_
      refine z_iload K 2 dX3_isSame_158 rfl ?_
      refine z_callVG (ws' := [(q79, .inl (cI, 22, .inl (wtO MM BB f))), (aX, .inr (2, [.ref aB, .ref aL, .ref aT, .int se])), (aB, .inr (0, [.int (nI n), .ref aB0, .ref aB1, .ref aB2, .ref aB3, .ref aB4, .ref aB5])), (aB0, .inl (cI, 20, .inl fm)), (aB1, .inl (cI, 20, .inl fb)), (aB2, .inl (cI, 20, .inl fh)), (aB3, .inl (cI, 20, .inl fp)), (aB4, .inl (cI, 20, .inl fv)), (aB5, .inl (cI, 20, .inl fa)), (aL, .inr (1, [.ref aL0, .ref aL1, .ref aL2, .ref aL3, .ref aL4, .ref aL5, .int hu])), (aL0, .inl (cI, 6, .inl lw)), (aL1, .inl (cI, 6, .inl lm)), (aL2, .inl (cI, 6, .inl lb)), (aL3, .inl (cI, 6, .inl lt)), (aL4, .inl (cI, 6, .inl la)), (aL5, .inl (cI, 6, .inl lk))] ++ simW cI cZ cQ cW u r n se hu MM HH PP BB TB MB AB PB) (st' := [.int (fh f)]) (rest := []) (C := RX2) (T := TX2) (N := 4) K (m_X2_homeOf l _ D cI cZ cQ cW aX f aB aL aT se n aB0 aB1 aB2 aB3 aB4 aB5 fh (by omega) (by omega)) gX3_isSame_X2_homeOf rfl 1 2 (by decide +kernel) rfl dX3_isSame_160 [1, 2, 5] 1 [] rfl rfl ⟨by decide, by decide⟩ ⟨by decide, by decide⟩ rfl rfl rfl rfl rfl (Nat.le_of_ble_eq_true rfl) rfl rfl rfl ?_
      refine z_aload_n K 5 dX3_isSame_163 rfl ?_
      refine z_get (C := RX3) (T := TX3) (N := 9) (ci := 3) (v := .ref (u 1)) K iX3 rfl 16 rfl 3 (by decide) (by decide +kernel) rfl rfl dX3_isSame_164 ?_
      refine z_iload K 2 dX3_isSame_167 rfl ?_
      refine z_aald (y := (r 0 f)) K 17 2 f rfl rfl rfl (by omega) (by omega) (sm_ref_at (by omega)) dX3_isSame_169 ?_
      refine z_iconst (v := 1) K dX3_isSame_170 (by decide) ?_
      refine z_ialdX (x := (nI (HH f))) K 0 1 rfl (by omega) (by omega) (ga (n := 16) rfl (sw_F (by omega))) rfl dX3_isSame_171 ?_
      refine z_icmp_ne K 234 dX3_isSame_172 (by decide) (fun h => absurd ((I.row f hf).2.2.1) h) (fun _ => ?_)
      refine z_aload_n K 6 dX3_isSame_175 rfl ?_
      refine z_iload K 2 dX3_isSame_176 rfl ?_
      refine z_callVG (ws' := [(q79, .inl (cI, 22, .inl (wtO MM BB f))), (aX, .inr (2, [.ref aB, .ref aL, .ref aT, .int se])), (aB, .inr (0, [.int (nI n), .ref aB0, .ref aB1, .ref aB2, .ref aB3, .ref aB4, .ref aB5])), (aB0, .inl (cI, 20, .inl fm)), (aB1, .inl (cI, 20, .inl fb)), (aB2, .inl (cI, 20, .inl fh)), (aB3, .inl (cI, 20, .inl fp)), (aB4, .inl (cI, 20, .inl fv)), (aB5, .inl (cI, 20, .inl fa)), (aL, .inr (1, [.ref aL0, .ref aL1, .ref aL2, .ref aL3, .ref aL4, .ref aL5, .int hu])), (aL0, .inl (cI, 6, .inl lw)), (aL1, .inl (cI, 6, .inl lm)), (aL2, .inl (cI, 6, .inl lb)), (aL3, .inl (cI, 6, .inl lt)), (aL4, .inl (cI, 6, .inl la)), (aL5, .inl (cI, 6, .inl lk))] ++ simW cI cZ cQ cW u r n se hu MM HH PP BB TB MB AB PB) (st' := [.int (fp f)]) (rest := []) (C := RX2) (T := TX2) (N := 4) K (m_X2_parentOf l _ D cI cZ cQ cW aX f aB aL aT se n aB0 aB1 aB2 aB3 aB4 aB5 fp (by omega) (by omega)) gX3_isSame_X2_parentOf rfl 1 2 (by decide +kernel) rfl dX3_isSame_178 [1, 2, 6] 1 [] rfl rfl ⟨by decide, by decide⟩ ⟨by decide, by decide⟩ rfl rfl rfl rfl rfl (Nat.le_of_ble_eq_true rfl) rfl rfl rfl ?_
      refine z_aload_n K 5 dX3_isSame_181 rfl ?_
      refine z_get (C := RX3) (T := TX3) (N := 9) (ci := 3) (v := .ref (u 1)) K iX3 rfl 16 rfl 3 (by decide) (by decide +kernel) rfl rfl dX3_isSame_182 ?_
      refine z_iload K 2 dX3_isSame_185 rfl ?_
      refine z_aald (y := (r 0 f)) K 17 2 f rfl rfl rfl (by omega) (by omega) (sm_ref_at (by omega)) dX3_isSame_187 ?_
      refine z_iconst (v := 2) K dX3_isSame_188 (by decide) ?_
      refine z_ialdX (x := (PP f)) K 0 2 rfl (by omega) (by omega) (ga (n := 16) rfl (sw_F (by omega))) rfl dX3_isSame_189 ?_
      refine z_icmp_ne K 234 dX3_isSame_190 (by decide) (fun h => absurd ((I.row f hf).2.2.2.symm) h) (fun _ => ?_)
      refine z_aload_n K 6 dX3_isSame_193 rfl ?_
      refine z_iload K 2 dX3_isSame_194 rfl ?_
      refine z_callVG (ws' := [(q79, .inl (cI, 22, .inl (wtO MM BB f))), (aX, .inr (2, [.ref aB, .ref aL, .ref aT, .int se])), (aB, .inr (0, [.int (nI n), .ref aB0, .ref aB1, .ref aB2, .ref aB3, .ref aB4, .ref aB5])), (aB0, .inl (cI, 20, .inl fm)), (aB1, .inl (cI, 20, .inl fb)), (aB2, .inl (cI, 20, .inl fh)), (aB3, .inl (cI, 20, .inl fp)), (aB4, .inl (cI, 20, .inl fv)), (aB5, .inl (cI, 20, .inl fa)), (aL, .inr (1, [.ref aL0, .ref aL1, .ref aL2, .ref aL3, .ref aL4, .ref aL5, .int hu])), (aL0, .inl (cI, 6, .inl lw)), (aL1, .inl (cI, 6, .inl lm)), (aL2, .inl (cI, 6, .inl lb)), (aL3, .inl (cI, 6, .inl lt)), (aL4, .inl (cI, 6, .inl la)), (aL5, .inl (cI, 6, .inl lk))] ++ simW cI cZ cQ cW u r n se hu MM HH PP BB TB MB AB PB) (st' := [.int (pc (fb f))]) (rest := []) (C := RX2) (T := TX2) (N := 4) K (m_X2_beastsOf l _ D cI cZ cQ cW aX f aB aL aT se n aB0 aB1 aB2 aB3 aB4 aB5 fb (by omega) (by omega)) gX3_isSame_X2_beastsOf rfl 1 2 (by decide +kernel) rfl dX3_isSame_196 [1, 2, 4] 1 [] rfl rfl ⟨by decide, by decide⟩ ⟨by decide, by decide⟩ rfl rfl rfl rfl rfl (Nat.le_of_ble_eq_true rfl) rfl rfl rfl ?_
      refine z_aload_n K 5 dX3_isSame_199 rfl ?_
      refine z_iload K 2 dX3_isSame_200 rfl ?_
      refine z_cV (st' := [.int (vaS BB f 12), .int (pc (fb f))]) (rest := [.int (pc (fb f))]) (C := RX3) (T := TX3) (N := 9) (q0 := 16) K (m_X3_beastsOf l _ D cI cZ cQ cW u f r n se hu MM HH PP BB TB MB AB PB (hn) (by omega)) gX3_isSame_X3_beastsOf rfl 1 3 (by decide +kernel) rfl dX3_isSame_202 (List.sublist_append_right _ _) rfl rfl ⟨by decide, by decide⟩ ⟨by decide, by decide⟩ rfl rfl rfl (Nat.le_of_ble_eq_true rfl) rfl ?_
      refine z_icmp_ne K 234 dX3_isSame_205 (by decide) (fun h => absurd ((bea_eq I hf).symm) h) (fun _ => ?_)
      refine z_aload_n K 6 dX3_isSame_208 rfl ?_
      refine z_iload K 2 dX3_isSame_209 rfl ?_
      refine z_callVG (ws' := [(q79, .inl (cI, 22, .inl (wtO MM BB f))), (aX, .inr (2, [.ref aB, .ref aL, .ref aT, .int se])), (aB, .inr (0, [.int (nI n), .ref aB0, .ref aB1, .ref aB2, .ref aB3, .ref aB4, .ref aB5])), (aB0, .inl (cI, 20, .inl fm)), (aB1, .inl (cI, 20, .inl fb)), (aB2, .inl (cI, 20, .inl fh)), (aB3, .inl (cI, 20, .inl fp)), (aB4, .inl (cI, 20, .inl fv)), (aB5, .inl (cI, 20, .inl fa)), (aL, .inr (1, [.ref aL0, .ref aL1, .ref aL2, .ref aL3, .ref aL4, .ref aL5, .int hu])), (aL0, .inl (cI, 6, .inl lw)), (aL1, .inl (cI, 6, .inl lm)), (aL2, .inl (cI, 6, .inl lb)), (aL3, .inl (cI, 6, .inl lt)), (aL4, .inl (cI, 6, .inl la)), (aL5, .inl (cI, 6, .inl lk))] ++ simW cI cZ cQ cW u r n se hu MM HH PP BB TB MB AB PB) (st' := [.int (cntS lt ((1 : Int32) <<< (nI f &&& 31)) 6)]) (rest := []) (C := RX2) (T := TX2) (N := 4) K (m_X2_valleysOf l _ D cI cZ cQ cW aX f aB aL aT se n aB0 aB1 aB2 aB3 aB4 aB5 aL0 aL1 aL2 aL3 aL4 aL5 hu lt (by omega) (by omega)) gX3_isSame_X2_valleysOf rfl 1 2 (by decide +kernel) rfl dX3_isSame_211 [1, 2, 9, 13] 1 [] rfl rfl ⟨by decide, by decide⟩ ⟨by decide, by decide⟩ rfl rfl rfl rfl rfl (Nat.le_of_ble_eq_true rfl) rfl rfl rfl ?_
      refine z_aload_n K 5 dX3_isSame_214 rfl ?_
      refine z_iload K 2 dX3_isSame_215 rfl ?_
      refine z_cV (st' := [.int (vaS TB f 6), .int (cntS lt ((1 : Int32) <<< (nI f &&& 31)) 6)]) (rest := [.int (cntS lt ((1 : Int32) <<< (nI f &&& 31)) 6)]) (C := RX3) (T := TX3) (N := 9) (q0 := 16) K (m_X3_valleys l _ D cI cZ cQ cW u f r n se hu MM HH PP BB TB MB AB PB (by omega)) gX3_isSame_X3_valleys rfl 1 3 (by decide +kernel) rfl dX3_isSame_217 (List.sublist_append_right _ _) rfl rfl ⟨by decide, by decide⟩ ⟨by decide, by decide⟩ rfl rfl rfl (Nat.le_of_ble_eq_true rfl) rfl ?_
      refine z_icmp_ne K 234 dX3_isSame_220 (by decide) (fun h => absurd ((val_eq I hf).symm) h) (fun _ => ?_)
      refine z_aload_n K 6 dX3_isSame_223 rfl ?_
      refine z_iload K 2 dX3_isSame_224 rfl ?_
      refine z_callVG (ws' := [(q79, .inl (cI, 22, .inl (wtO MM BB f))), (aX, .inr (2, [.ref aB, .ref aL, .ref aT, .int se])), (aB, .inr (0, [.int (nI n), .ref aB0, .ref aB1, .ref aB2, .ref aB3, .ref aB4, .ref aB5])), (aB0, .inl (cI, 20, .inl fm)), (aB1, .inl (cI, 20, .inl fb)), (aB2, .inl (cI, 20, .inl fh)), (aB3, .inl (cI, 20, .inl fp)), (aB4, .inl (cI, 20, .inl fv)), (aB5, .inl (cI, 20, .inl fa)), (aL, .inr (1, [.ref aL0, .ref aL1, .ref aL2, .ref aL3, .ref aL4, .ref aL5, .int hu])), (aL0, .inl (cI, 6, .inl lw)), (aL1, .inl (cI, 6, .inl lm)), (aL2, .inl (cI, 6, .inl lb)), (aL3, .inl (cI, 6, .inl lt)), (aL4, .inl (cI, 6, .inl la)), (aL5, .inl (cI, 6, .inl lk))] ++ simW cI cZ cQ cW u r n se hu MM HH PP BB TB MB AB PB) (st' := [.int (pc (fv f))]) (rest := []) (C := RX2) (T := TX2) (N := 4) K (m_X2_variantsOf l _ D cI cZ cQ cW aX f aB aL aT se n aB0 aB1 aB2 aB3 aB4 aB5 fv (by omega) (by omega)) gX3_isSame_X2_variantsOf rfl 1 2 (by decide +kernel) rfl dX3_isSame_226 [1, 2, 7] 1 [] rfl rfl ⟨by decide, by decide⟩ ⟨by decide, by decide⟩ rfl rfl rfl rfl rfl (Nat.le_of_ble_eq_true rfl) rfl rfl rfl ?_
      refine z_iload K 1 dX3_isSame_229 rfl ?_
      refine z_icmp_eq K 236 dX3_isSame_231 (by decide) (fun _ => ?_) (fun h => absurd (chi_eq I hf) h)
      refine z_iconst (v := 0) K dX3_isSame_236 (by decide) ?_
      refine z_istore (lv' := [(6, .int 0), (5, .int (chP2 PP f n)), (4, .int (nI f)), (3, .ref q79), (2, .int (suS BB f)), (0, .ref (u 0)), (1, .ref aX)]) K dX3_isSame_237 (by decide) rfl ?_
      refine z_loop (wsf := fun b => [(q79, .inl (cI, 22, .inl (wtI BB f (wtO MM BB f) b))), (aX, .inr (2, [.ref aB, .ref aL, .ref aT, .int se])), (aB, .inr (0, [.int (nI n), .ref aB0, .ref aB1, .ref aB2, .ref aB3, .ref aB4, .ref aB5])), (aB0, .inl (cI, 20, .inl fm)), (aB1, .inl (cI, 20, .inl fb)), (aB2, .inl (cI, 20, .inl fh)), (aB3, .inl (cI, 20, .inl fp)), (aB4, .inl (cI, 20, .inl fv)), (aB5, .inl (cI, 20, .inl fa)), (aL, .inr (1, [.ref aL0, .ref aL1, .ref aL2, .ref aL3, .ref aL4, .ref aL5, .int hu])), (aL0, .inl (cI, 6, .inl lw)), (aL1, .inl (cI, 6, .inl lm)), (aL2, .inl (cI, 6, .inl lb)), (aL3, .inl (cI, 6, .inl lt)), (aL4, .inl (cI, 6, .inl la)), (aL5, .inl (cI, 6, .inl lk))] ++ simW cI cZ cQ cW u r n se hu MM HH PP BB TB MB AB PB) (lvf := fun b => [(6, .int (nI b)), (5, .int (chP2 PP f n)), (4, .int (nI f)), (3, .ref q79), (2, .int (suS BB f)), (0, .ref (u 0)), (1, .ref aX)]) 12 (by first | (simp only [wtI_0]; done) | (simp only [wtI_0]; rfl) | rfl) (by first | (simp only [wtI_0]; done) | (simp only [wtI_0]; rfl) | rfl) ?_ (fun b hb ihb => ?_)
      · refine z_iload K 0 dX3_isSame_239 rfl ?_
        refine z_bipush (v := 12) K dX3_isSame_241 (by decide) ?_
        refine z_cmpN K 303 12 12 dX3_isSame_243 (by decide) rfl rfl (by omega) (by omega) (fun _ => ?_) (fun h => absurd h (by omega))
        refine z_iconst (v := 0) K dX3_isSame_303 (by decide) ?_
        refine z_istore (lv' := [(6, .int 0), (5, .int (chP2 PP f n)), (4, .int (nI f)), (3, .ref q79), (2, .int (suS BB f)), (0, .ref (u 0)), (1, .ref aX)]) K dX3_isSame_304 (by decide) rfl ?_
        refine z_loop (wsf := fun v => [(q79, .inl (cI, 22, .inl (wtI BB f (wtO MM BB f) 12))), (aX, .inr (2, [.ref aB, .ref aL, .ref aT, .int se])), (aB, .inr (0, [.int (nI n), .ref aB0, .ref aB1, .ref aB2, .ref aB3, .ref aB4, .ref aB5])), (aB0, .inl (cI, 20, .inl fm)), (aB1, .inl (cI, 20, .inl fb)), (aB2, .inl (cI, 20, .inl fh)), (aB3, .inl (cI, 20, .inl fp)), (aB4, .inl (cI, 20, .inl fv)), (aB5, .inl (cI, 20, .inl fa)), (aL, .inr (1, [.ref aL0, .ref aL1, .ref aL2, .ref aL3, .ref aL4, .ref aL5, .int hu])), (aL0, .inl (cI, 6, .inl lw)), (aL1, .inl (cI, 6, .inl lm)), (aL2, .inl (cI, 6, .inl lb)), (aL3, .inl (cI, 6, .inl lt)), (aL4, .inl (cI, 6, .inl la)), (aL5, .inl (cI, 6, .inl lk))] ++ simW cI cZ cQ cW u r n se hu MM HH PP BB TB MB AB PB) (lvf := fun v => [(6, .int (nI v)), (5, .int (chP2 PP f n)), (4, .int (nI f)), (3, .ref q79), (2, .int (suS BB f)), (0, .ref (u 0)), (1, .ref aX)]) 6 rfl rfl ?_ (fun v hv ihv => ?_)
        · refine z_iload K 0 dX3_isSame_306 rfl ?_
          refine z_bipush (v := 6) K dX3_isSame_308 (by decide) ?_
          refine z_cmpN K 361 6 6 dX3_isSame_310 (by decide) rfl rfl (by omega) (by omega) (fun _ => ?_) (fun h => absurd h (by omega))
          refine z_iload_n K 4 dX3_isSame_361 rfl ?_
          refine z_aload_n K 5 dX3_isSame_362 rfl ?_
          refine z_iload K 2 dX3_isSame_363 rfl ?_
          refine z_cV (st' := [.int (vaS BB f 12), .int (suS BB f)]) (rest := [.int (suS BB f)]) (C := RX3) (T := TX3) (N := 9) (q0 := 16) K (m_X3_beastsOf l _ D cI cZ cQ cW u f r n se hu MM HH PP BB TB MB AB PB (hn) (by omega)) gX3_isSame_X3_beastsOf rfl 1 3 (by decide +kernel) rfl dX3_isSame_365 (List.sublist_append_right _ _) rfl rfl ⟨by decide, by decide⟩ ⟨by decide, by decide⟩ rfl rfl rfl (Nat.le_of_ble_eq_true rfl) rfl ?_
          refine z_iadd K dX3_isSame_368 ?_
          refine z_istore_n (lv' := [(2, .int ((suS BB f) + (vaS BB f 12))), (6, .int (nI 6)), (5, .int (chP2 PP f n)), (4, .int (nI f)), (3, .ref q79), (0, .ref (u 0)), (1, .ref aX)]) K dX3_isSame_369 (by decide) rfl ?_
          have hmf := hMM f hf
          refine z_aload_n K 4 dX3_isSame_370 rfl ?_
          refine z_aload_n K 5 dX3_isSame_371 rfl ?_
          refine z_get (C := RX3) (T := TX3) (N := 9) (ci := 3) (v := .ref (u 1)) K iX3 rfl 16 rfl 3 (by decide) (by decide +kernel) rfl rfl dX3_isSame_372 ?_
          refine z_iload K 3 dX3_isSame_375 rfl ?_
          refine z_aald (y := (r 0 f)) K 17 2 f rfl rfl rfl (by omega) (by omega) (sm_ref_at (by omega)) dX3_isSame_377 ?_
          refine z_iconst (v := 0) K dX3_isSame_378 (by decide) ?_
          refine z_ialdX (x := (nI (MM f))) K 0 0 rfl (by omega) (by omega) (ga (n := 16) rfl (sw_F (by omega))) rfl dX3_isSame_379 ?_
          refine z_dup2 K dX3_isSame_380 rfl rfl ?_
          refine z_ialdN K 0 0 (MM f) (by omega) (by omega) rfl rfl dX3_isSame_381 ?_
          refine z_iconst (v := 1) K dX3_isSame_382 (by decide) ?_
          refine z_iadd K dX3_isSame_383 ?_
          refine z_iastG (q0 := 0) K 0 (MM f) rfl rfl (by omega) (by omega) dX3_isSame_384 (ws' := [(q79, .inl (cI, 22, .inl (upd (wtI BB f (wtO MM BB f) 12) (MM f) (((wtI BB f (wtO MM BB f) 12) (MM f)) + 1)))), (aX, .inr (2, [.ref aB, .ref aL, .ref aT, .int se])), (aB, .inr (0, [.int (nI n), .ref aB0, .ref aB1, .ref aB2, .ref aB3, .ref aB4, .ref aB5])), (aB0, .inl (cI, 20, .inl fm)), (aB1, .inl (cI, 20, .inl fb)), (aB2, .inl (cI, 20, .inl fh)), (aB3, .inl (cI, 20, .inl fp)), (aB4, .inl (cI, 20, .inl fv)), (aB5, .inl (cI, 20, .inl fa)), (aL, .inr (1, [.ref aL0, .ref aL1, .ref aL2, .ref aL3, .ref aL4, .ref aL5, .int hu])), (aL0, .inl (cI, 6, .inl lw)), (aL1, .inl (cI, 6, .inl lm)), (aL2, .inl (cI, 6, .inl lb)), (aL3, .inl (cI, 6, .inl lt)), (aL4, .inl (cI, 6, .inl la)), (aL5, .inl (cI, 6, .inl lk))] ++ simW cI cZ cQ cW u r n se hu MM HH PP BB TB MB AB PB) rfl ?_
          refine z_iinc (lv' := [(4, .int (nI (f + 1))), (2, .int ((suS BB f) + (vaS BB f 12))), (6, .int (nI 6)), (5, .int (chP2 PP f n)), (3, .ref q79), (0, .ref (u 0)), (1, .ref aX)]) (v := nI (f + 1)) K 3 dX3_isSame_385 rfl (z_inc1 f) (by decide) rfl ?_
          refine z_goto K 85 dX3_isSame_388 (by decide) ?_
          refine z_lv (lv' := [(4, .int (nI (f + 1))), (3, .ref q79), (2, .int ((suS BB f) + (vaS BB f 12))), (0, .ref (u 0)), (1, .ref aX)]) [0, 4, 1, 5, 6] rfl ?_
          rw [show (suS BB (f + 1)) = ((suS BB f) + (vaS BB f 12)) from (by first | (simp only [chP2_succ, suS_succ, wtI_succ, wtO_succ, inS_succ, awP_succ, vaS_succ, vbS_succ, z_b, Bool.false_eq_true, if_false, if_true, ↓reduceIte]; done) | rfl | simp [chP2_succ, suS_succ, wtI_succ, wtO_succ, inS_succ, awP_succ, vaS_succ, vbS_succ, z_b])] at ihf
          rw [show (wtO MM BB (f + 1)) = (upd (wtI BB f (wtO MM BB f) 12) (MM f) (((wtI BB f (wtO MM BB f) 12) (MM f)) + 1)) from (by first | (simp only [chP2_succ, suS_succ, wtI_succ, wtO_succ, inS_succ, awP_succ, vaS_succ, vbS_succ, z_b, Bool.false_eq_true, if_false, if_true, ↓reduceIte]; done) | rfl | simp [chP2_succ, suS_succ, wtI_succ, wtO_succ, inS_succ, awP_succ, vaS_succ, vbS_succ, z_b])] at ihf
          exact ihf
        · refine z_iload K 0 dX3_isSame_306 rfl ?_
          refine z_bipush (v := 6) K dX3_isSame_308 (by decide) ?_
          refine z_cmpN K 361 v 6 dX3_isSame_310 (by decide) rfl rfl (by omega) (by omega) (fun h => absurd h (by omega)) (fun _ => ?_)
          refine z_aload_n K 6 dX3_isSame_313 rfl ?_
          refine z_iload K 2 dX3_isSame_314 rfl ?_
          refine z_iload K 0 dX3_isSame_316 rfl ?_
          refine z_callVG (ws' := [(q79, .inl (cI, 22, .inl (wtI BB f (wtO MM BB f) 12))), (aX, .inr (2, [.ref aB, .ref aL, .ref aT, .int se])), (aB, .inr (0, [.int (nI n), .ref aB0, .ref aB1, .ref aB2, .ref aB3, .ref aB4, .ref aB5])), (aB0, .inl (cI, 20, .inl fm)), (aB1, .inl (cI, 20, .inl fb)), (aB2, .inl (cI, 20, .inl fh)), (aB3, .inl (cI, 20, .inl fp)), (aB4, .inl (cI, 20, .inl fv)), (aB5, .inl (cI, 20, .inl fa)), (aL, .inr (1, [.ref aL0, .ref aL1, .ref aL2, .ref aL3, .ref aL4, .ref aL5, .int hu])), (aL0, .inl (cI, 6, .inl lw)), (aL1, .inl (cI, 6, .inl lm)), (aL2, .inl (cI, 6, .inl lb)), (aL3, .inl (cI, 6, .inl lt)), (aL4, .inl (cI, 6, .inl la)), (aL5, .inl (cI, 6, .inl lk))] ++ simW cI cZ cQ cW u r n se hu MM HH PP BB TB MB AB PB) (st' := [.int (z_b (hs (lt v) (nI f)))]) (rest := []) (C := RX2) (T := TX2) (N := 4) K (m_X2_isTold l _ D cI cZ cQ cW aX f v aB aL aT se n aB0 aB1 aB2 aB3 aB4 aB5 aL0 aL1 aL2 aL3 aL4 aL5 hu lt (by omega) (by omega) (by omega)) gX3_isSame_X2_isTold rfl 2 2 (by decide +kernel) rfl dX3_isSame_318 [1, 2, 9, 13] 1 [] rfl rfl ⟨by decide, by decide⟩ ⟨by decide, by decide⟩ rfl rfl rfl rfl rfl (Nat.le_of_ble_eq_true rfl) rfl rfl rfl ?_
          refine z_aload_n K 5 dX3_isSame_321 rfl ?_
          refine z_get (C := RX3) (T := TX3) (N := 9) (ci := 3) (v := .ref (u 3)) K iX3 rfl 16 rfl 5 (by decide) (by decide +kernel) rfl rfl dX3_isSame_322 ?_
          refine z_iload K 2 dX3_isSame_325 rfl ?_
          refine z_aald (y := (r 2 f)) K 19 3 f rfl rfl rfl (by omega) (by omega) (sm_ref_at (by omega)) dX3_isSame_327 ?_
          refine z_iload K 0 dX3_isSame_328 rfl ?_
          refine z_zald (x := (z_b (TB f v))) K _ 1 v (ga (n := 16) rfl (sw_O (by omega))) rfl (by omega) (by omega) dX3_isSame_330 rfl ?_
          refine z_icmp_ne K 353 dX3_isSame_331 (by decide) (fun h => absurd (by rw [hs_bi _ (by omega), I.tb v hv f (by omega)]) h) (fun _ => ?_)
          refine z_aload_n K 6 dX3_isSame_334 rfl ?_
          refine z_iload K 2 dX3_isSame_335 rfl ?_
          refine z_iload K 0 dX3_isSame_337 rfl ?_
          refine z_callVG (ws' := [(q79, .inl (cI, 22, .inl (wtI BB f (wtO MM BB f) 12))), (aX, .inr (2, [.ref aB, .ref aL, .ref aT, .int se])), (aB, .inr (0, [.int (nI n), .ref aB0, .ref aB1, .ref aB2, .ref aB3, .ref aB4, .ref aB5])), (aB0, .inl (cI, 20, .inl fm)), (aB1, .inl (cI, 20, .inl fb)), (aB2, .inl (cI, 20, .inl fh)), (aB3, .inl (cI, 20, .inl fp)), (aB4, .inl (cI, 20, .inl fv)), (aB5, .inl (cI, 20, .inl fa)), (aL, .inr (1, [.ref aL0, .ref aL1, .ref aL2, .ref aL3, .ref aL4, .ref aL5, .int hu])), (aL0, .inl (cI, 6, .inl lw)), (aL1, .inl (cI, 6, .inl lm)), (aL2, .inl (cI, 6, .inl lb)), (aL3, .inl (cI, 6, .inl lt)), (aL4, .inl (cI, 6, .inl la)), (aL5, .inl (cI, 6, .inl lk))] ++ simW cI cZ cQ cW u r n se hu MM HH PP BB TB MB AB PB) (st' := [.int (z_b (ban lm lb fm fb f v))]) (rest := []) (C := RX2) (T := TX2) (N := 4) K (m_X2_isBanned l _ D cI cZ cQ cW aX f v aB aL aT se n aB0 aB1 aB2 aB3 aB4 aB5 fm fb aL0 aL1 aL2 aL3 aL4 aL5 hu lm lb (by omega) (by omega) (by omega)) gX3_isSame_X2_isBanned rfl 2 2 (by decide +kernel) rfl dX3_isSame_339 [1, 2, 3, 4, 9, 11, 12] 1 [] rfl rfl ⟨by decide, by decide⟩ ⟨by decide, by decide⟩ rfl rfl rfl rfl rfl (Nat.le_of_ble_eq_true rfl) rfl rfl rfl ?_
          refine z_aload_n K 5 dX3_isSame_342 rfl ?_
          refine z_iload K 2 dX3_isSame_343 rfl ?_
          refine z_iload K 0 dX3_isSame_345 rfl ?_
          refine z_cV (st' := [.int (z_b (bnS MM BB MB AB f v 12)), .int (z_b (ban lm lb fm fb f v))]) (rest := [.int (z_b (ban lm lb fm fb f v))]) (C := RX3) (T := TX3) (N := 9) (q0 := 16) K (m_X3_isBanned l _ D cI cZ cQ cW u f v r n se hu MM HH PP BB TB MB AB PB (hn) (hMM) (by omega) (by omega)) gX3_isSame_X3_isBanned rfl 2 3 (by decide +kernel) rfl dX3_isSame_347 (List.sublist_append_right _ _) rfl rfl ⟨by decide, by decide⟩ ⟨by decide, by decide⟩ rfl rfl rfl (Nat.le_of_ble_eq_true rfl) rfl ?_
          refine z_icmp_eq K 355 dX3_isSame_350 (by decide) (fun _ => ?_) (fun h => absurd (by rw [bn_ban I hf hv]) h)
          refine z_iinc (lv' := [(6, .int (nI (v + 1))), (5, .int (chP2 PP f n)), (4, .int (nI f)), (3, .ref q79), (2, .int (suS BB f)), (0, .ref (u 0)), (1, .ref aX)]) (v := nI (v + 1)) K 0 dX3_isSame_355 rfl (z_inc1 v) (by decide) rfl ?_
          refine z_goto K 306 dX3_isSame_358 (by decide) ?_
          exact ihv
      · refine z_iload K 0 dX3_isSame_239 rfl ?_
        refine z_bipush (v := 12) K dX3_isSame_241 (by decide) ?_
        refine z_cmpN K 303 b 12 dX3_isSame_243 (by decide) rfl rfl (by omega) (by omega) (fun h => absurd h (by omega)) (fun _ => ?_)
        refine z_aload_n K 6 dX3_isSame_246 rfl ?_
        refine z_iload K 2 dX3_isSame_247 rfl ?_
        refine z_iload K 0 dX3_isSame_249 rfl ?_
        refine z_callVG (ws' := [(q79, .inl (cI, 22, .inl (wtI BB f (wtO MM BB f) b))), (aX, .inr (2, [.ref aB, .ref aL, .ref aT, .int se])), (aB, .inr (0, [.int (nI n), .ref aB0, .ref aB1, .ref aB2, .ref aB3, .ref aB4, .ref aB5])), (aB0, .inl (cI, 20, .inl fm)), (aB1, .inl (cI, 20, .inl fb)), (aB2, .inl (cI, 20, .inl fh)), (aB3, .inl (cI, 20, .inl fp)), (aB4, .inl (cI, 20, .inl fv)), (aB5, .inl (cI, 20, .inl fa)), (aL, .inr (1, [.ref aL0, .ref aL1, .ref aL2, .ref aL3, .ref aL4, .ref aL5, .int hu])), (aL0, .inl (cI, 6, .inl lw)), (aL1, .inl (cI, 6, .inl lm)), (aL2, .inl (cI, 6, .inl lb)), (aL3, .inl (cI, 6, .inl lt)), (aL4, .inl (cI, 6, .inl la)), (aL5, .inl (cI, 6, .inl lk))] ++ simW cI cZ cQ cW u r n se hu MM HH PP BB TB MB AB PB) (st' := [.int (z_b (hs (fb f) (nI b)))]) (rest := []) (C := RX2) (T := TX2) (N := 4) K (m_X2_hasBeast l _ D cI cZ cQ cW aX f b aB aL aT se n aB0 aB1 aB2 aB3 aB4 aB5 fb (by omega) (by omega) (by omega)) gX3_isSame_X2_hasBeast rfl 2 2 (by decide +kernel) rfl dX3_isSame_251 [1, 2, 4] 1 [] rfl rfl ⟨by decide, by decide⟩ ⟨by decide, by decide⟩ rfl rfl rfl rfl rfl (Nat.le_of_ble_eq_true rfl) rfl rfl rfl ?_
        refine z_aload_n K 5 dX3_isSame_254 rfl ?_
        refine z_get (C := RX3) (T := TX3) (N := 9) (ci := 3) (v := .ref (u 2)) K iX3 rfl 16 rfl 4 (by decide) (by decide +kernel) rfl rfl dX3_isSame_255 ?_
        refine z_iload K 2 dX3_isSame_258 rfl ?_
        refine z_aald (y := (r 1 f)) K 18 3 f rfl rfl rfl (by omega) (by omega) (sm_ref_at (by omega)) dX3_isSame_260 ?_
        refine z_iload K 0 dX3_isSame_261 rfl ?_
        refine z_zald (x := (z_b (BB f b))) K _ 1 b (ga (n := 16) rfl (sw_B (by omega))) rfl (by omega) (by omega) dX3_isSame_263 rfl ?_
        refine z_icmp_eq K 269 dX3_isSame_264 (by decide) (fun _ => ?_) (fun h => absurd (by rw [hs_bi _ (by omega), I.bb f hf b hb]) h)
        refine z_aload_n K 3 dX3_isSame_269 rfl ?_
        refine z_bipush (v := 10) K dX3_isSame_270 (by decide) ?_
        refine z_iload K 0 dX3_isSame_272 rfl ?_
        refine z_iadd K dX3_isSame_274 ?_
        refine z_st (st' := [.int (nI (10 + b)), .ref q79]) (by rw [← nI_add 10 b]; rfl) ?_
        refine z_dup2 K dX3_isSame_275 rfl rfl ?_
        refine z_ialdN K 0 0 (10 + b) (by omega) (by omega) rfl rfl dX3_isSame_276 ?_
        refine z_aload_n K 5 dX3_isSame_277 rfl ?_
        refine z_get (C := RX3) (T := TX3) (N := 9) (ci := 3) (v := .ref (u 2)) K iX3 rfl 16 rfl 4 (by decide) (by decide +kernel) rfl rfl dX3_isSame_278 ?_
        refine z_iload K 2 dX3_isSame_281 rfl ?_
        refine z_aald (y := (r 1 f)) K 18 3 f rfl rfl rfl (by omega) (by omega) (sm_ref_at (by omega)) dX3_isSame_283 ?_
        refine z_iload K 0 dX3_isSame_284 rfl ?_
        refine z_zald (x := (z_b (BB f b))) K _ 1 b (ga (n := 16) rfl (sw_B (by omega))) rfl (by omega) (by omega) dX3_isSame_286 rfl ?_
        refine z_if_eqB K 294 dX3_isSame_287 (by decide) (fun c287 => ?_) (fun c287 => ?_)
        · refine z_iconst (v := 0) K dX3_isSame_294 (by decide) ?_
          refine z_iadd K dX3_isSame_295 ?_
          refine z_iastG (q0 := 0) K 0 (10 + b) rfl rfl (by omega) (by omega) dX3_isSame_296 (ws' := [(q79, .inl (cI, 22, .inl (upd (wtI BB f (wtO MM BB f) b) (10 + b) (((wtI BB f (wtO MM BB f) b) (10 + b)) + 0)))), (aX, .inr (2, [.ref aB, .ref aL, .ref aT, .int se])), (aB, .inr (0, [.int (nI n), .ref aB0, .ref aB1, .ref aB2, .ref aB3, .ref aB4, .ref aB5])), (aB0, .inl (cI, 20, .inl fm)), (aB1, .inl (cI, 20, .inl fb)), (aB2, .inl (cI, 20, .inl fh)), (aB3, .inl (cI, 20, .inl fp)), (aB4, .inl (cI, 20, .inl fv)), (aB5, .inl (cI, 20, .inl fa)), (aL, .inr (1, [.ref aL0, .ref aL1, .ref aL2, .ref aL3, .ref aL4, .ref aL5, .int hu])), (aL0, .inl (cI, 6, .inl lw)), (aL1, .inl (cI, 6, .inl lm)), (aL2, .inl (cI, 6, .inl lb)), (aL3, .inl (cI, 6, .inl lt)), (aL4, .inl (cI, 6, .inl la)), (aL5, .inl (cI, 6, .inl lk))] ++ simW cI cZ cQ cW u r n se hu MM HH PP BB TB MB AB PB) rfl ?_
          refine z_iinc (lv' := [(6, .int (nI (b + 1))), (5, .int (chP2 PP f n)), (4, .int (nI f)), (3, .ref q79), (2, .int (suS BB f)), (0, .ref (u 0)), (1, .ref aX)]) (v := nI (b + 1)) K 0 dX3_isSame_297 rfl (z_inc1 b) (by decide) rfl ?_
          refine z_goto K 239 dX3_isSame_300 (by decide) ?_
          rw [show (wtI BB f (wtO MM BB f) (b + 1)) = (upd (wtI BB f (wtO MM BB f) b) (10 + b) (((wtI BB f (wtO MM BB f) b) (10 + b)) + 0)) from (by first | (simp only [chP2_succ, suS_succ, wtI_succ, wtO_succ, inS_succ, awP_succ, vaS_succ, vbS_succ, z_b, c287, Bool.false_eq_true, if_false, if_true, ↓reduceIte]; done) | rfl | simp [chP2_succ, suS_succ, wtI_succ, wtO_succ, inS_succ, awP_succ, vaS_succ, vbS_succ, z_b, c287])] at ihb
          exact ihb
        · refine z_iconst (v := 1) K dX3_isSame_290 (by decide) ?_
          refine z_goto K 295 dX3_isSame_291 (by decide) ?_
          refine z_iadd K dX3_isSame_295 ?_
          refine z_iastG (q0 := 0) K 0 (10 + b) rfl rfl (by omega) (by omega) dX3_isSame_296 (ws' := [(q79, .inl (cI, 22, .inl (upd (wtI BB f (wtO MM BB f) b) (10 + b) (((wtI BB f (wtO MM BB f) b) (10 + b)) + 1)))), (aX, .inr (2, [.ref aB, .ref aL, .ref aT, .int se])), (aB, .inr (0, [.int (nI n), .ref aB0, .ref aB1, .ref aB2, .ref aB3, .ref aB4, .ref aB5])), (aB0, .inl (cI, 20, .inl fm)), (aB1, .inl (cI, 20, .inl fb)), (aB2, .inl (cI, 20, .inl fh)), (aB3, .inl (cI, 20, .inl fp)), (aB4, .inl (cI, 20, .inl fv)), (aB5, .inl (cI, 20, .inl fa)), (aL, .inr (1, [.ref aL0, .ref aL1, .ref aL2, .ref aL3, .ref aL4, .ref aL5, .int hu])), (aL0, .inl (cI, 6, .inl lw)), (aL1, .inl (cI, 6, .inl lm)), (aL2, .inl (cI, 6, .inl lb)), (aL3, .inl (cI, 6, .inl lt)), (aL4, .inl (cI, 6, .inl la)), (aL5, .inl (cI, 6, .inl lk))] ++ simW cI cZ cQ cW u r n se hu MM HH PP BB TB MB AB PB) rfl ?_
          refine z_iinc (lv' := [(6, .int (nI (b + 1))), (5, .int (chP2 PP f n)), (4, .int (nI f)), (3, .ref q79), (2, .int (suS BB f)), (0, .ref (u 0)), (1, .ref aX)]) (v := nI (b + 1)) K 0 dX3_isSame_297 rfl (z_inc1 b) (by decide) rfl ?_
          refine z_goto K 239 dX3_isSame_300 (by decide) ?_
          rw [show (wtI BB f (wtO MM BB f) (b + 1)) = (upd (wtI BB f (wtO MM BB f) b) (10 + b) (((wtI BB f (wtO MM BB f) b) (10 + b)) + 1)) from (by first | (simp only [chP2_succ, suS_succ, wtI_succ, wtO_succ, inS_succ, awP_succ, vaS_succ, vbS_succ, z_b, c287, Bool.false_eq_true, if_false, if_true, ↓reduceIte]; done) | rfl | simp [chP2_succ, suS_succ, wtI_succ, wtO_succ, inS_succ, awP_succ, vaS_succ, vbS_succ, z_b, c287])] at ihb
          exact ihb
    · refine z_iload K 0 dX3_isSame_100 rfl ?_
      refine z_aload_n K 5 dX3_isSame_102 rfl ?_
      refine z_get (C := RX3) (T := TX3) (N := 9) (ci := 3) (v := .int (nI n)) K iX3 rfl 16 rfl 0 (by decide) (by decide +kernel) rfl rfl dX3_isSame_103 ?_
      refine z_cmpN K 139 k n dX3_isSame_106 (by decide) rfl rfl (by omega) (by omega) (fun h => absurd h (by omega)) (fun _ => ?_)
      refine z_iload K 1 dX3_isSame_109 rfl ?_
      refine z_aload_n K 5 dX3_isSame_111 rfl ?_
      refine z_get (C := RX3) (T := TX3) (N := 9) (ci := 3) (v := .ref (u 1)) K iX3 rfl 16 rfl 3 (by decide) (by decide +kernel) rfl rfl dX3_isSame_112 ?_
      refine z_iload K 0 dX3_isSame_115 rfl ?_
      refine z_aald (y := (r 0 k)) K 17 2 k rfl rfl rfl (by omega) (by omega) (sm_ref_at (by omega)) dX3_isSame_117 ?_
      refine z_iconst (v := 2) K dX3_isSame_118 (by decide) ?_
      refine z_ialdX (x := (PP k)) K 0 2 rfl (by omega) (by omega) (ga (n := 16) rfl (sw_F (by omega))) rfl dX3_isSame_119 ?_
      refine z_iload K 2 dX3_isSame_120 rfl ?_
      refine z_icmp_ne K 129 dX3_isSame_122 (by decide) (fun c122 => ?_) (fun c122 => ?_)
      · refine z_iconst (v := 0) K dX3_isSame_129 (by decide) ?_
        refine z_iadd K dX3_isSame_130 ?_
        refine z_istore (lv' := [(5, .int ((chP2 PP f k) + 0)), (6, .int (nI k)), (4, .int (nI f)), (3, .ref q79), (2, .int (suS BB f)), (0, .ref (u 0)), (1, .ref aX)]) K dX3_isSame_131 (by decide) rfl ?_
        refine z_iinc (lv' := [(6, .int (nI (k + 1))), (5, .int ((chP2 PP f k) + 0)), (4, .int (nI f)), (3, .ref q79), (2, .int (suS BB f)), (0, .ref (u 0)), (1, .ref aX)]) (v := nI (k + 1)) K 1 dX3_isSame_133 rfl (z_inc1 k) (by decide) rfl ?_
        refine z_goto K 100 dX3_isSame_136 (by decide) ?_
        rw [show (chP2 PP f (k + 1)) = ((chP2 PP f k) + 0) from (by first | (simp only [chP2_succ, suS_succ, wtI_succ, wtO_succ, inS_succ, awP_succ, vaS_succ, vbS_succ, z_b, c122, Bool.false_eq_true, if_false, if_true, ↓reduceIte]; done) | rfl | simp [chP2_succ, suS_succ, wtI_succ, wtO_succ, inS_succ, awP_succ, vaS_succ, vbS_succ, z_b, c122])] at ihk
        exact ihk
      · refine z_iconst (v := 1) K dX3_isSame_125 (by decide) ?_
        refine z_goto K 130 dX3_isSame_126 (by decide) ?_
        refine z_iadd K dX3_isSame_130 ?_
        refine z_istore (lv' := [(5, .int ((chP2 PP f k) + 1)), (6, .int (nI k)), (4, .int (nI f)), (3, .ref q79), (2, .int (suS BB f)), (0, .ref (u 0)), (1, .ref aX)]) K dX3_isSame_131 (by decide) rfl ?_
        refine z_iinc (lv' := [(6, .int (nI (k + 1))), (5, .int ((chP2 PP f k) + 1)), (4, .int (nI f)), (3, .ref q79), (2, .int (suS BB f)), (0, .ref (u 0)), (1, .ref aX)]) (v := nI (k + 1)) K 1 dX3_isSame_133 rfl (z_inc1 k) (by decide) rfl ?_
        refine z_goto K 100 dX3_isSame_136 (by decide) ?_
        rw [show (chP2 PP f (k + 1)) = ((chP2 PP f k) + 1) from (by first | (simp only [chP2_succ, suS_succ, wtI_succ, wtO_succ, inS_succ, awP_succ, vaS_succ, vbS_succ, z_b, c122, Bool.false_eq_true, if_false, if_true, ↓reduceIte]; done) | rfl | simp [chP2_succ, suS_succ, wtI_succ, wtO_succ, inS_succ, awP_succ, vaS_succ, vbS_succ, z_b, c122])] at ihk
        exact ihk
