set_option maxRecDepth 100000 in
set_option maxHeartbeats 4000000 in
theorem m_X2_has (l : Launch) (G : Nat → Prop) (D : va_G) (cI cZ cQ cW : ClassId) (w : Int32) (k : Int32)  : z_M l yX2_has wsX2_has { frames := 0, cells := 0, slots := 0, locals := 0 } G D [(cI, .int), (cZ, .boolean), (cQ, .array .int), (cW, .array .boolean)] [.int w, .int k] ([]) (some (.int (z_b (hs w k)))) [] 0 0 := by
  refine z_ofW (cc := cX2_has) (nL := 2) (ret := (some .boolean)) (by decide) rfl (Nat.le_of_ble_eq_true rfl) [] rfl (lv0 := [(0, .int w), (1, .int k)]) rfl ?_
  intro p e s m args below meth c K
  refine z_iload_n K 0 dX2_has_0 rfl ?_
  refine z_iload_n K 1 dX2_has_1 rfl ?_
  refine z_ishr K dX2_has_2 ?_
  refine z_iconst (v := 1) K dX2_has_3 (by decide) ?_
  refine z_iand K dX2_has_4 ?_
  refine z_if_eq K 12 dX2_has_5 (by decide) (fun c5 => ?_) (fun c5 => ?_)
  · refine z_iconst (v := 0) K dX2_has_12 (by decide) ?_
    exact z_zret K dX2_has_13 (by simp [z_b, hs, c5]) [] rfl (by decide) (by decide)
  · refine z_iconst (v := 1) K dX2_has_8 (by decide) ?_
    refine z_goto K 13 dX2_has_9 (by decide) ?_
    exact z_zret K dX2_has_13 (by simp [z_b, hs, c5]) [] rfl (by decide) (by decide)

set_option maxRecDepth 100000 in
set_option maxHeartbeats 4000000 in
theorem m_X2_turned (l : Launch) (G : Nat → Prop) (D : va_G) (cI cZ cQ cW : ClassId) (w : Int32) (k : Int32)  : z_M l yX2_turned wsX2_turned { frames := 0, cells := 0, slots := 0, locals := 0 } G D [(cI, .int), (cZ, .boolean), (cQ, .array .int), (cW, .array .boolean)] [.int w, .int k] ([]) (some (.int (tu w k))) [] 0 0 := by
  refine z_ofW (cc := cX2_turned) (nL := 2) (ret := (some .int)) (by decide) rfl (Nat.le_of_ble_eq_true rfl) [] rfl (lv0 := [(0, .int w), (1, .int k)]) rfl ?_
  intro p e s m args below meth c K
  refine z_iload_n K 0 dX2_turned_0 rfl ?_
  refine z_iconst (v := 1) K dX2_turned_1 (by decide) ?_
  refine z_iload_n K 1 dX2_turned_2 rfl ?_
  refine z_ishl K dX2_turned_3 ?_
  refine z_ixor K dX2_turned_4 ?_
  exact z_iret K dX2_turned_5 (rfl) [] rfl (by decide) (by decide)

set_option maxRecDepth 100000 in
set_option maxHeartbeats 4000000 in
theorem m_X2_smallestAlone (l : Launch) (G : Nat → Prop) (D : va_G) (cI cZ cQ cW : ClassId) (w : Int32)  : z_M l yX2_smallestAlone wsX2_smallestAlone { frames := 0, cells := 0, slots := 0, locals := 0 } G D [(cI, .int), (cZ, .boolean), (cQ, .array .int), (cW, .array .boolean)] [.int w] ([]) (some (.int (sal w))) [] 0 0 := by
  refine z_ofW (cc := cX2_smallestAlone) (nL := 1) (ret := (some .int)) (by decide) rfl (Nat.le_of_ble_eq_true rfl) [] rfl (lv0 := [(0, .int w)]) rfl ?_
  intro p e s m args below meth c K
  refine z_iload_n K 0 dX2_smallestAlone_0 rfl ?_
  refine z_iload_n K 0 dX2_smallestAlone_1 rfl ?_
  refine z_ineg K dX2_smallestAlone_2 ?_
  refine z_iand K dX2_smallestAlone_3 ?_
  exact z_iret K dX2_smallestAlone_4 (rfl) [] rfl (by decide) (by decide)

set_option maxRecDepth 100000 in
set_option maxHeartbeats 4000000 in
theorem m_J6_bitCount_0f7a4 (l : Launch) (G : Nat → Prop) (D : va_G) (cI cZ cQ cW : ClassId) (w : Int32)  : z_M l yJ6_bitCount_0f7a4 wsJ6_bitCount_0f7a4 { frames := 0, cells := 0, slots := 0, locals := 0 } G D [(cI, .int), (cZ, .boolean), (cQ, .array .int), (cW, .array .boolean)] [.int w] ([]) (some (.int (pc w))) [] 0 0 := by
  refine z_ofW (cc := cJ6_bitCount_0f7a4) (nL := 1) (ret := (some .int)) (by decide) rfl (Nat.le_of_ble_eq_true rfl) [] rfl (lv0 := [(0, .int w)]) rfl ?_
  intro p e s m args below meth c K
  refine z_iload_n K 0 dJ6_bitCount_0f7a4_0 rfl ?_
  refine z_iload_n K 0 dJ6_bitCount_0f7a4_1 rfl ?_
  refine z_iconst (v := 1) K dJ6_bitCount_0f7a4_2 (by decide) ?_
  refine z_iushr (v := ((w.toUInt32 >>> (Int32.toUInt32 1 &&& Int32.toUInt32 31)).toInt32)) K dJ6_bitCount_0f7a4_3 rfl ?_
  refine z_ldcw (v := 1431655765) K dJ6_bitCount_0f7a4_4 (by decide +kernel) ?_
  refine z_iand K dJ6_bitCount_0f7a4_7 ?_
  refine z_isub K dJ6_bitCount_0f7a4_8 ?_
  refine z_istore_n (lv' := [(0, .int (w - (((w.toUInt32 >>> (Int32.toUInt32 1 &&& Int32.toUInt32 31)).toInt32) &&& 1431655765)))]) K dJ6_bitCount_0f7a4_9 (by decide) rfl ?_
  refine z_iload_n K 0 dJ6_bitCount_0f7a4_10 rfl ?_
  refine z_ldcw (v := 858993459) K dJ6_bitCount_0f7a4_11 (by decide +kernel) ?_
  refine z_iand K dJ6_bitCount_0f7a4_14 ?_
  refine z_iload_n K 0 dJ6_bitCount_0f7a4_15 rfl ?_
  refine z_iconst (v := 2) K dJ6_bitCount_0f7a4_16 (by decide) ?_
  refine z_iushr (v := (((w - (((w.toUInt32 >>> (Int32.toUInt32 1 &&& Int32.toUInt32 31)).toInt32) &&& 1431655765)).toUInt32 >>> (Int32.toUInt32 2 &&& Int32.toUInt32 31)).toInt32)) K dJ6_bitCount_0f7a4_17 rfl ?_
  refine z_ldcw (v := 858993459) K dJ6_bitCount_0f7a4_18 (by decide +kernel) ?_
  refine z_iand K dJ6_bitCount_0f7a4_21 ?_
  refine z_iadd K dJ6_bitCount_0f7a4_22 ?_
  refine z_istore_n (lv' := [(0, .int (((w - (((w.toUInt32 >>> (Int32.toUInt32 1 &&& Int32.toUInt32 31)).toInt32) &&& 1431655765)) &&& 858993459) + ((((w - (((w.toUInt32 >>> (Int32.toUInt32 1 &&& Int32.toUInt32 31)).toInt32) &&& 1431655765)).toUInt32 >>> (Int32.toUInt32 2 &&& Int32.toUInt32 31)).toInt32) &&& 858993459)))]) K dJ6_bitCount_0f7a4_23 (by decide) rfl ?_
  refine z_iload_n K 0 dJ6_bitCount_0f7a4_24 rfl ?_
  refine z_iload_n K 0 dJ6_bitCount_0f7a4_25 rfl ?_
  refine z_iconst (v := 4) K dJ6_bitCount_0f7a4_26 (by decide) ?_
  refine z_iushr (v := (((((w - (((w.toUInt32 >>> (Int32.toUInt32 1 &&& Int32.toUInt32 31)).toInt32) &&& 1431655765)) &&& 858993459) + ((((w - (((w.toUInt32 >>> (Int32.toUInt32 1 &&& Int32.toUInt32 31)).toInt32) &&& 1431655765)).toUInt32 >>> (Int32.toUInt32 2 &&& Int32.toUInt32 31)).toInt32) &&& 858993459)).toUInt32 >>> (Int32.toUInt32 4 &&& Int32.toUInt32 31)).toInt32)) K dJ6_bitCount_0f7a4_27 rfl ?_
  refine z_iadd K dJ6_bitCount_0f7a4_28 ?_
  refine z_ldcw (v := 252645135) K dJ6_bitCount_0f7a4_29 (by decide +kernel) ?_
  refine z_iand K dJ6_bitCount_0f7a4_32 ?_
  refine z_istore_n (lv' := [(0, .int (((((w - (((w.toUInt32 >>> (Int32.toUInt32 1 &&& Int32.toUInt32 31)).toInt32) &&& 1431655765)) &&& 858993459) + ((((w - (((w.toUInt32 >>> (Int32.toUInt32 1 &&& Int32.toUInt32 31)).toInt32) &&& 1431655765)).toUInt32 >>> (Int32.toUInt32 2 &&& Int32.toUInt32 31)).toInt32) &&& 858993459)) + (((((w - (((w.toUInt32 >>> (Int32.toUInt32 1 &&& Int32.toUInt32 31)).toInt32) &&& 1431655765)) &&& 858993459) + ((((w - (((w.toUInt32 >>> (Int32.toUInt32 1 &&& Int32.toUInt32 31)).toInt32) &&& 1431655765)).toUInt32 >>> (Int32.toUInt32 2 &&& Int32.toUInt32 31)).toInt32) &&& 858993459)).toUInt32 >>> (Int32.toUInt32 4 &&& Int32.toUInt32 31)).toInt32)) &&& 252645135))]) K dJ6_bitCount_0f7a4_33 (by decide) rfl ?_
  refine z_iload_n K 0 dJ6_bitCount_0f7a4_34 rfl ?_
  refine z_iload_n K 0 dJ6_bitCount_0f7a4_35 rfl ?_
  refine z_bipush (v := 8) K dJ6_bitCount_0f7a4_36 (by decide) ?_
  refine z_iushr (v := (((((((w - (((w.toUInt32 >>> (Int32.toUInt32 1 &&& Int32.toUInt32 31)).toInt32) &&& 1431655765)) &&& 858993459) + ((((w - (((w.toUInt32 >>> (Int32.toUInt32 1 &&& Int32.toUInt32 31)).toInt32) &&& 1431655765)).toUInt32 >>> (Int32.toUInt32 2 &&& Int32.toUInt32 31)).toInt32) &&& 858993459)) + (((((w - (((w.toUInt32 >>> (Int32.toUInt32 1 &&& Int32.toUInt32 31)).toInt32) &&& 1431655765)) &&& 858993459) + ((((w - (((w.toUInt32 >>> (Int32.toUInt32 1 &&& Int32.toUInt32 31)).toInt32) &&& 1431655765)).toUInt32 >>> (Int32.toUInt32 2 &&& Int32.toUInt32 31)).toInt32) &&& 858993459)).toUInt32 >>> (Int32.toUInt32 4 &&& Int32.toUInt32 31)).toInt32)) &&& 252645135).toUInt32 >>> (Int32.toUInt32 8 &&& Int32.toUInt32 31)).toInt32)) K dJ6_bitCount_0f7a4_38 rfl ?_
  refine z_iadd K dJ6_bitCount_0f7a4_39 ?_
  refine z_istore_n (lv' := [(0, .int ((((((w - (((w.toUInt32 >>> (Int32.toUInt32 1 &&& Int32.toUInt32 31)).toInt32) &&& 1431655765)) &&& 858993459) + ((((w - (((w.toUInt32 >>> (Int32.toUInt32 1 &&& Int32.toUInt32 31)).toInt32) &&& 1431655765)).toUInt32 >>> (Int32.toUInt32 2 &&& Int32.toUInt32 31)).toInt32) &&& 858993459)) + (((((w - (((w.toUInt32 >>> (Int32.toUInt32 1 &&& Int32.toUInt32 31)).toInt32) &&& 1431655765)) &&& 858993459) + ((((w - (((w.toUInt32 >>> (Int32.toUInt32 1 &&& Int32.toUInt32 31)).toInt32) &&& 1431655765)).toUInt32 >>> (Int32.toUInt32 2 &&& Int32.toUInt32 31)).toInt32) &&& 858993459)).toUInt32 >>> (Int32.toUInt32 4 &&& Int32.toUInt32 31)).toInt32)) &&& 252645135) + (((((((w - (((w.toUInt32 >>> (Int32.toUInt32 1 &&& Int32.toUInt32 31)).toInt32) &&& 1431655765)) &&& 858993459) + ((((w - (((w.toUInt32 >>> (Int32.toUInt32 1 &&& Int32.toUInt32 31)).toInt32) &&& 1431655765)).toUInt32 >>> (Int32.toUInt32 2 &&& Int32.toUInt32 31)).toInt32) &&& 858993459)) + (((((w - (((w.toUInt32 >>> (Int32.toUInt32 1 &&& Int32.toUInt32 31)).toInt32) &&& 1431655765)) &&& 858993459) + ((((w - (((w.toUInt32 >>> (Int32.toUInt32 1 &&& Int32.toUInt32 31)).toInt32) &&& 1431655765)).toUInt32 >>> (Int32.toUInt32 2 &&& Int32.toUInt32 31)).toInt32) &&& 858993459)).toUInt32 >>> (Int32.toUInt32 4 &&& Int32.toUInt32 31)).toInt32)) &&& 252645135).toUInt32 >>> (Int32.toUInt32 8 &&& Int32.toUInt32 31)).toInt32)))]) K dJ6_bitCount_0f7a4_40 (by decide) rfl ?_
  refine z_iload_n K 0 dJ6_bitCount_0f7a4_41 rfl ?_
  refine z_iload_n K 0 dJ6_bitCount_0f7a4_42 rfl ?_
  refine z_bipush (v := 16) K dJ6_bitCount_0f7a4_43 (by decide) ?_
  refine z_iushr (v := ((((((((w - (((w.toUInt32 >>> (Int32.toUInt32 1 &&& Int32.toUInt32 31)).toInt32) &&& 1431655765)) &&& 858993459) + ((((w - (((w.toUInt32 >>> (Int32.toUInt32 1 &&& Int32.toUInt32 31)).toInt32) &&& 1431655765)).toUInt32 >>> (Int32.toUInt32 2 &&& Int32.toUInt32 31)).toInt32) &&& 858993459)) + (((((w - (((w.toUInt32 >>> (Int32.toUInt32 1 &&& Int32.toUInt32 31)).toInt32) &&& 1431655765)) &&& 858993459) + ((((w - (((w.toUInt32 >>> (Int32.toUInt32 1 &&& Int32.toUInt32 31)).toInt32) &&& 1431655765)).toUInt32 >>> (Int32.toUInt32 2 &&& Int32.toUInt32 31)).toInt32) &&& 858993459)).toUInt32 >>> (Int32.toUInt32 4 &&& Int32.toUInt32 31)).toInt32)) &&& 252645135) + (((((((w - (((w.toUInt32 >>> (Int32.toUInt32 1 &&& Int32.toUInt32 31)).toInt32) &&& 1431655765)) &&& 858993459) + ((((w - (((w.toUInt32 >>> (Int32.toUInt32 1 &&& Int32.toUInt32 31)).toInt32) &&& 1431655765)).toUInt32 >>> (Int32.toUInt32 2 &&& Int32.toUInt32 31)).toInt32) &&& 858993459)) + (((((w - (((w.toUInt32 >>> (Int32.toUInt32 1 &&& Int32.toUInt32 31)).toInt32) &&& 1431655765)) &&& 858993459) + ((((w - (((w.toUInt32 >>> (Int32.toUInt32 1 &&& Int32.toUInt32 31)).toInt32) &&& 1431655765)).toUInt32 >>> (Int32.toUInt32 2 &&& Int32.toUInt32 31)).toInt32) &&& 858993459)).toUInt32 >>> (Int32.toUInt32 4 &&& Int32.toUInt32 31)).toInt32)) &&& 252645135).toUInt32 >>> (Int32.toUInt32 8 &&& Int32.toUInt32 31)).toInt32)).toUInt32 >>> (Int32.toUInt32 16 &&& Int32.toUInt32 31)).toInt32)) K dJ6_bitCount_0f7a4_45 rfl ?_
  refine z_iadd K dJ6_bitCount_0f7a4_46 ?_
  refine z_istore_n (lv' := [(0, .int (((((((w - (((w.toUInt32 >>> (Int32.toUInt32 1 &&& Int32.toUInt32 31)).toInt32) &&& 1431655765)) &&& 858993459) + ((((w - (((w.toUInt32 >>> (Int32.toUInt32 1 &&& Int32.toUInt32 31)).toInt32) &&& 1431655765)).toUInt32 >>> (Int32.toUInt32 2 &&& Int32.toUInt32 31)).toInt32) &&& 858993459)) + (((((w - (((w.toUInt32 >>> (Int32.toUInt32 1 &&& Int32.toUInt32 31)).toInt32) &&& 1431655765)) &&& 858993459) + ((((w - (((w.toUInt32 >>> (Int32.toUInt32 1 &&& Int32.toUInt32 31)).toInt32) &&& 1431655765)).toUInt32 >>> (Int32.toUInt32 2 &&& Int32.toUInt32 31)).toInt32) &&& 858993459)).toUInt32 >>> (Int32.toUInt32 4 &&& Int32.toUInt32 31)).toInt32)) &&& 252645135) + (((((((w - (((w.toUInt32 >>> (Int32.toUInt32 1 &&& Int32.toUInt32 31)).toInt32) &&& 1431655765)) &&& 858993459) + ((((w - (((w.toUInt32 >>> (Int32.toUInt32 1 &&& Int32.toUInt32 31)).toInt32) &&& 1431655765)).toUInt32 >>> (Int32.toUInt32 2 &&& Int32.toUInt32 31)).toInt32) &&& 858993459)) + (((((w - (((w.toUInt32 >>> (Int32.toUInt32 1 &&& Int32.toUInt32 31)).toInt32) &&& 1431655765)) &&& 858993459) + ((((w - (((w.toUInt32 >>> (Int32.toUInt32 1 &&& Int32.toUInt32 31)).toInt32) &&& 1431655765)).toUInt32 >>> (Int32.toUInt32 2 &&& Int32.toUInt32 31)).toInt32) &&& 858993459)).toUInt32 >>> (Int32.toUInt32 4 &&& Int32.toUInt32 31)).toInt32)) &&& 252645135).toUInt32 >>> (Int32.toUInt32 8 &&& Int32.toUInt32 31)).toInt32)) + ((((((((w - (((w.toUInt32 >>> (Int32.toUInt32 1 &&& Int32.toUInt32 31)).toInt32) &&& 1431655765)) &&& 858993459) + ((((w - (((w.toUInt32 >>> (Int32.toUInt32 1 &&& Int32.toUInt32 31)).toInt32) &&& 1431655765)).toUInt32 >>> (Int32.toUInt32 2 &&& Int32.toUInt32 31)).toInt32) &&& 858993459)) + (((((w - (((w.toUInt32 >>> (Int32.toUInt32 1 &&& Int32.toUInt32 31)).toInt32) &&& 1431655765)) &&& 858993459) + ((((w - (((w.toUInt32 >>> (Int32.toUInt32 1 &&& Int32.toUInt32 31)).toInt32) &&& 1431655765)).toUInt32 >>> (Int32.toUInt32 2 &&& Int32.toUInt32 31)).toInt32) &&& 858993459)).toUInt32 >>> (Int32.toUInt32 4 &&& Int32.toUInt32 31)).toInt32)) &&& 252645135) + (((((((w - (((w.toUInt32 >>> (Int32.toUInt32 1 &&& Int32.toUInt32 31)).toInt32) &&& 1431655765)) &&& 858993459) + ((((w - (((w.toUInt32 >>> (Int32.toUInt32 1 &&& Int32.toUInt32 31)).toInt32) &&& 1431655765)).toUInt32 >>> (Int32.toUInt32 2 &&& Int32.toUInt32 31)).toInt32) &&& 858993459)) + (((((w - (((w.toUInt32 >>> (Int32.toUInt32 1 &&& Int32.toUInt32 31)).toInt32) &&& 1431655765)) &&& 858993459) + ((((w - (((w.toUInt32 >>> (Int32.toUInt32 1 &&& Int32.toUInt32 31)).toInt32) &&& 1431655765)).toUInt32 >>> (Int32.toUInt32 2 &&& Int32.toUInt32 31)).toInt32) &&& 858993459)).toUInt32 >>> (Int32.toUInt32 4 &&& Int32.toUInt32 31)).toInt32)) &&& 252645135).toUInt32 >>> (Int32.toUInt32 8 &&& Int32.toUInt32 31)).toInt32)).toUInt32 >>> (Int32.toUInt32 16 &&& Int32.toUInt32 31)).toInt32)))]) K dJ6_bitCount_0f7a4_47 (by decide) rfl ?_
  refine z_iload_n K 0 dJ6_bitCount_0f7a4_48 rfl ?_
  refine z_bipush (v := 63) K dJ6_bitCount_0f7a4_49 (by decide) ?_
  refine z_iand K dJ6_bitCount_0f7a4_51 ?_
  exact z_iret K dJ6_bitCount_0f7a4_52 (bcI_pc w) [] rfl (by decide) (by decide)

set_option maxRecDepth 100000 in
set_option maxHeartbeats 4000000 in
theorem m_X2_size (l : Launch) (G : Nat → Prop) (D : va_G) (cI cZ cQ cW : ClassId) (w : Int32)  : z_M l yX2_size wsX2_size { frames := 1, cells := 0, slots := 0, locals := 20 } G D [(cI, .int), (cZ, .boolean), (cQ, .array .int), (cW, .array .boolean)] [.int w] ([]) (some (.int (pc w))) [] 0 0 := by
  refine z_ofW (cc := cX2_size) (nL := 1) (ret := (some .int)) (by decide) rfl (Nat.le_of_ble_eq_true rfl) [] rfl (lv0 := [(0, .int w)]) rfl ?_
  intro p e s m args below meth c K
  refine z_iload_n K 0 dX2_size_0 rfl ?_
  refine z_callS (ws' := []) (st' := [.int (pc w)]) (rest := []) K (m_J6_bitCount_0f7a4 l _ D cI cZ cQ cW w ) gX2_size_J6_bitCount_0f7a4 rfl 1 (by decide +kernel) dX2_size_1 [] [] [] rfl rfl rfl ⟨by decide, by decide⟩ ⟨by decide, by decide⟩ rfl rfl rfl rfl (Nat.le_of_ble_eq_true rfl) rfl rfl rfl rfl ?_
  exact z_iret K dX2_size_4 (rfl) [] rfl (by decide) (by decide)

set_option maxRecDepth 100000 in
set_option maxHeartbeats 4000000 in
theorem m_X1_count (l : Launch) (G : Nat → Prop) (D : va_G) (cI cZ cQ cW : ClassId) (aL : Nat) (w : Int32) (aL0 : Nat) (aL1 : Nat) (aL2 : Nat) (aL3 : Nat) (aL4 : Nat) (aL5 : Nat) (hu : Int32) (lt : Nat → Int32)  : z_M l yX1_count wsX1_count { frames := 2, cells := 0, slots := 0, locals := 40 } G D [(cI, .int), (cZ, .boolean), (cQ, .array .int), (cW, .array .boolean)] [.ref aL, .int w] ([(aL, .inr (1, [.ref aL0, .ref aL1, .ref aL2, .ref aL3, .ref aL4, .ref aL5, .int hu])), (aL3, .inl (cI, 6, .inl lt))]) (some (.int (cntS lt w 6))) [] 0 0 := by
  have iX1 : ∀ w ∈ u_ws RX1 TX1 7, w ∈ wsX1_count := fun w h => List.mem_cons_of_mem _ (List.mem_append_right _ h)
  refine z_ofW (cc := cX1_count) (nL := 4) (ret := (some .int)) (by decide) rfl (Nat.le_of_ble_eq_true rfl) [] rfl (lv0 := [(0, .ref aL), (1, .int w)]) rfl ?_
  intro p e s m args below meth c K
  refine z_iconst (v := 0) K dX1_count_0 (by decide) ?_
  refine z_istore_n (lv' := [(2, .int 0), (0, .ref aL), (1, .int w)]) K dX1_count_1 (by decide) rfl ?_
  refine z_iconst (v := 0) K dX1_count_2 (by decide) ?_
  refine z_istore_n (lv' := [(3, .int 0), (2, .int 0), (0, .ref aL), (1, .int w)]) K dX1_count_3 (by decide) rfl ?_
  refine z_loop (wsf := fun k => [(aL, .inr (1, [.ref aL0, .ref aL1, .ref aL2, .ref aL3, .ref aL4, .ref aL5, .int hu])), (aL3, .inl (cI, 6, .inl lt))]) (lvf := fun k => [(3, .int (nI k)), (2, .int (cntS lt w k)), (0, .ref aL), (1, .int w)]) 6 rfl rfl ?_ (fun k hk ihk => ?_)
  · refine z_iload_n K 0 dX1_count_4 rfl ?_
    refine z_bipush (v := 6) K dX1_count_5 (by decide) ?_
    refine z_cmpN K 30 6 6 dX1_count_7 (by decide) rfl rfl (by omega) (by omega) (fun _ => ?_) (fun h => absurd h (by omega))
    refine z_iload_n K 1 dX1_count_30 rfl ?_
    exact z_iret K dX1_count_31 (rfl) [] rfl (by decide) (by decide)
  · refine z_iload_n K 0 dX1_count_4 rfl ?_
    refine z_bipush (v := 6) K dX1_count_5 (by decide) ?_
    refine z_cmpN K 30 k 6 dX1_count_7 (by decide) rfl rfl (by omega) (by omega) (fun h => absurd h (by omega)) (fun _ => ?_)
    refine z_iload_n K 1 dX1_count_10 rfl ?_
    refine z_aload_n K 2 dX1_count_11 rfl ?_
    refine z_get (C := RX1) (T := TX1) (N := 7) (ci := 1) K iX1 rfl 0 rfl 3 (by decide) (by decide +kernel) rfl rfl dX1_count_12 ?_
    refine z_iload_n K 0 dX1_count_15 rfl ?_
    refine z_ialdN K 1 0 k (by omega) (by omega) rfl rfl dX1_count_16 ?_
    refine z_iload_n K 3 dX1_count_17 rfl ?_
    refine z_iand K dX1_count_18 ?_
    refine z_callSN (st' := [.int (pc ((lt k) &&& w)), .int (cntS lt w k)]) (rest := [.int (cntS lt w k)]) K (m_X2_size l _ D cI cZ cQ cW ((lt k) &&& w) ) gX1_count_X2_size_n57 rfl 1 (host := "FableIndex") (by decide) (by decide +kernel) (by decide +kernel) (by decide +kernel) dX1_count_19 rfl rfl ⟨by decide, by decide⟩ ⟨by decide, by decide⟩ rfl rfl (Nat.le_of_ble_eq_true rfl) rfl ?_
    refine z_iadd K dX1_count_22 ?_
    refine z_istore_n (lv' := [(2, .int (cntS lt w k + (pc ((lt k) &&& w)))), (3, .int (nI k)), (0, .ref aL), (1, .int w)]) K dX1_count_23 (by decide) rfl ?_
    refine z_iinc (lv' := [(3, .int (nI (k + 1))), (2, .int (cntS lt w k + (pc ((lt k) &&& w)))), (0, .ref aL), (1, .int w)]) (v := nI (k + 1)) K 1 dX1_count_24 rfl (z_inc1 k) (by decide) rfl ?_
    refine z_goto K 4 dX1_count_27 (by decide) ?_
    rw [show (cntS lt w (k + 1)) = (cntS lt w k + (pc ((lt k) &&& w))) from rfl] at ihk
    exact ihk

set_option maxRecDepth 100000 in
set_option maxHeartbeats 4000000 in
theorem m_X0_all (l : Launch) (G : Nat → Prop) (D : va_G) (cI cZ cQ cW : ClassId) (aB : Nat) (n : Nat) (aB0 : Nat) (aB1 : Nat) (aB2 : Nat) (aB3 : Nat) (aB4 : Nat) (aB5 : Nat)  : z_M l yX0_all wsX0_all { frames := 0, cells := 0, slots := 0, locals := 0 } G D [(cI, .int), (cZ, .boolean), (cQ, .array .int), (cW, .array .boolean)] [.ref aB] ([(aB, .inr (0, [.int (nI n), .ref aB0, .ref aB1, .ref aB2, .ref aB3, .ref aB4, .ref aB5]))]) (some (.int (allS n))) [] 0 0 := by
  have iX0 : ∀ w ∈ u_ws RX0 TX0 7, w ∈ wsX0_all := fun w h => List.mem_cons_of_mem _ (List.mem_append_right _ h)
  refine z_ofW (cc := cX0_all) (nL := 1) (ret := (some .int)) (by decide) rfl (Nat.le_of_ble_eq_true rfl) [] rfl (lv0 := [(0, .ref aB)]) rfl ?_
  intro p e s m args below meth c K
  refine z_iconst (v := 1) K dX0_all_0 (by decide) ?_
  refine z_aload_n K 0 dX0_all_1 rfl ?_
  refine z_get (C := RX0) (T := TX0) (N := 7) (ci := 0) K iX0 rfl 0 rfl 0 (by decide) (by decide +kernel) rfl rfl dX0_all_2 ?_
  refine z_ishl K dX0_all_5 ?_
  refine z_iconst (v := 1) K dX0_all_6 (by decide) ?_
  refine z_isub K dX0_all_7 ?_
  exact z_iret K dX0_all_8 (rfl) [] rfl (by decide) (by decide)

set_option maxRecDepth 100000 in
set_option maxHeartbeats 4000000 in
theorem m_X1_bans (l : Launch) (G : Nat → Prop) (D : va_G) (cI cZ cQ cW : ClassId) (aL : Nat) (aB : Nat) (f : Nat) (v : Nat) (aL0 : Nat) (aL1 : Nat) (aL2 : Nat) (aL3 : Nat) (aL4 : Nat) (aL5 : Nat) (hu : Int32) (lm : Nat → Int32) (lb : Nat → Int32) (n : Nat) (aB0 : Nat) (aB1 : Nat) (aB2 : Nat) (aB3 : Nat) (aB4 : Nat) (aB5 : Nat) (fm : Nat → Int32) (fb : Nat → Int32) (hf : f < 20) (hv : v < 6) : z_M l yX1_bans wsX1_bans { frames := 1, cells := 0, slots := 0, locals := 21 } G D [(cI, .int), (cZ, .boolean), (cQ, .array .int), (cW, .array .boolean)] [.ref aL, .ref aB, .int (nI f), .int (nI v)] ([(aL, .inr (1, [.ref aL0, .ref aL1, .ref aL2, .ref aL3, .ref aL4, .ref aL5, .int hu])), (aL1, .inl (cI, 6, .inl lm)), (aL2, .inl (cI, 6, .inl lb)), (aB, .inr (0, [.int (nI n), .ref aB0, .ref aB1, .ref aB2, .ref aB3, .ref aB4, .ref aB5])), (aB0, .inl (cI, 20, .inl fm)), (aB1, .inl (cI, 20, .inl fb))]) (some (.int (z_b (ban lm lb fm fb f v)))) [] 0 0 := by
  have iX1 : ∀ w ∈ u_ws RX1 TX1 7, w ∈ wsX1_bans := fun w h => List.mem_cons_of_mem _ (List.mem_append_left _ (List.mem_append_right _ h))
  have iX0 : ∀ w ∈ u_ws RX0 TX0 7, w ∈ wsX1_bans := fun w h => List.mem_cons_of_mem _ (List.mem_append_right _ h)
  refine z_ofW (cc := cX1_bans) (nL := 4) (ret := (some .boolean)) (by decide) rfl (Nat.le_of_ble_eq_true rfl) [] rfl (lv0 := [(0, .ref aL), (1, .ref aB), (2, .int (nI f)), (3, .int (nI v))]) rfl ?_
  intro p e s m args below meth c K
  refine z_aload_n K 0 dX1_bans_0 rfl ?_
  refine z_get (C := RX1) (T := TX1) (N := 7) (ci := 1) K iX1 rfl 0 rfl 1 (by decide) (by decide +kernel) rfl rfl dX1_bans_1 ?_
  refine z_iload_n K 3 dX1_bans_4 rfl ?_
  refine z_ialdN K 1 0 v (by omega) (by omega) rfl rfl dX1_bans_5 ?_
  refine z_aload_n K 1 dX1_bans_6 rfl ?_
  refine z_get (C := RX0) (T := TX0) (N := 7) (ci := 0) K iX0 rfl 3 rfl 1 (by decide) (by decide +kernel) rfl rfl dX1_bans_7 ?_
  refine z_iload_n K 2 dX1_bans_10 rfl ?_
  refine z_ialdN K 4 0 f (by omega) (by omega) rfl rfl dX1_bans_11 ?_
  refine z_callSN (st' := [.int (z_b (hs (lm v) (fm f)))]) (rest := []) K (m_X2_has l _ D cI cZ cQ cW (lm v) (fm f) ) gX1_bans_X2_has_n43 rfl 2 (host := "FableIndex") (by decide) (by decide +kernel) (by decide +kernel) (by decide +kernel) dX1_bans_12 rfl rfl ⟨by decide, by decide⟩ ⟨by decide, by decide⟩ rfl rfl (Nat.le_of_ble_eq_true rfl) rfl ?_
  refine z_if_neB K 34 dX1_bans_15 (by decide) (fun c15 => ?_) (fun c15 => ?_)
  · refine z_iconst (v := 1) K dX1_bans_34 (by decide) ?_
    refine z_goto K 39 dX1_bans_35 (by decide) ?_
    exact z_zret K dX1_bans_39 (by simp [z_b, ban, c15]) [] rfl (by decide) (by decide)
  · refine z_aload_n K 0 dX1_bans_18 rfl ?_
    refine z_get (C := RX1) (T := TX1) (N := 7) (ci := 1) K iX1 rfl 0 rfl 2 (by decide) (by decide +kernel) rfl rfl dX1_bans_19 ?_
    refine z_iload_n K 3 dX1_bans_22 rfl ?_
    refine z_ialdN K 2 0 v (by omega) (by omega) rfl rfl dX1_bans_23 ?_
    refine z_aload_n K 1 dX1_bans_24 rfl ?_
    refine z_get (C := RX0) (T := TX0) (N := 7) (ci := 0) K iX0 rfl 3 rfl 2 (by decide) (by decide +kernel) rfl rfl dX1_bans_25 ?_
    refine z_iload_n K 2 dX1_bans_28 rfl ?_
    refine z_ialdN K 5 0 f (by omega) (by omega) rfl rfl dX1_bans_29 ?_
    refine z_iand K dX1_bans_30 ?_
    refine z_if_eq K 38 dX1_bans_31 (by decide) (fun c31 => ?_) (fun c31 => ?_)
    · refine z_iconst (v := 0) K dX1_bans_38 (by decide) ?_
      exact z_zret K dX1_bans_39 (by simp [z_b, ban, c15, c31]) [] rfl (by decide) (by decide)
    · refine z_iconst (v := 1) K dX1_bans_34 (by decide) ?_
      refine z_goto K 39 dX1_bans_35 (by decide) ?_
      exact z_zret K dX1_bans_39 (by simp [z_b, ban, c15, c31]) [] rfl (by decide) (by decide)

set_option maxRecDepth 100000 in
set_option maxHeartbeats 4000000 in
theorem m_X0_withMoral (l : Launch) (G : Nat → Prop) (D : va_G) (cI cZ cQ cW : ClassId) (aB : Nat) (w : Int32) (n : Nat) (aB0 : Nat) (aB1 : Nat) (aB2 : Nat) (aB3 : Nat) (aB4 : Nat) (aB5 : Nat) (fm : Nat → Int32) (hn : n ≤ 20) : z_M l yX0_withMoral wsX0_withMoral { frames := 0, cells := 0, slots := 0, locals := 0 } G D [(cI, .int), (cZ, .boolean), (cQ, .array .int), (cW, .array .boolean)] [.ref aB, .int w] ([(aB, .inr (0, [.int (nI n), .ref aB0, .ref aB1, .ref aB2, .ref aB3, .ref aB4, .ref aB5])), (aB0, .inl (cI, 20, .inl fm))]) (some (.int (wmS fm w n))) [] 0 0 := by
  have iX0 : ∀ w ∈ u_ws RX0 TX0 7, w ∈ wsX0_withMoral := fun w h => List.mem_cons_of_mem _ (List.mem_append_right _ h)
  refine z_ofW (cc := cX0_withMoral) (nL := 4) (ret := (some .int)) (by decide) rfl (Nat.le_of_ble_eq_true rfl) [] rfl (lv0 := [(0, .ref aB), (1, .int w)]) rfl ?_
  intro p e s m args below meth c K
  refine z_iconst (v := 0) K dX0_withMoral_0 (by decide) ?_
  refine z_istore_n (lv' := [(2, .int 0), (0, .ref aB), (1, .int w)]) K dX0_withMoral_1 (by decide) rfl ?_
  refine z_iconst (v := 0) K dX0_withMoral_2 (by decide) ?_
  refine z_istore_n (lv' := [(3, .int 0), (2, .int 0), (0, .ref aB), (1, .int w)]) K dX0_withMoral_3 (by decide) rfl ?_
  refine z_loop (wsf := fun k => [(aB, .inr (0, [.int (nI n), .ref aB0, .ref aB1, .ref aB2, .ref aB3, .ref aB4, .ref aB5])), (aB0, .inl (cI, 20, .inl fm))]) (lvf := fun k => [(3, .int (nI k)), (2, .int (wmS fm w k)), (0, .ref aB), (1, .int w)]) n rfl rfl ?_ (fun k hk ihk => ?_)
  · refine z_iload_n K 0 dX0_withMoral_4 rfl ?_
    refine z_aload_n K 2 dX0_withMoral_5 rfl ?_
    refine z_get (C := RX0) (T := TX0) (N := 7) (ci := 0) K iX0 rfl 0 rfl 0 (by decide) (by decide +kernel) rfl rfl dX0_withMoral_6 ?_
    refine z_cmpN K 34 n n dX0_withMoral_9 (by decide) rfl rfl (by omega) (by omega) (fun _ => ?_) (fun h => absurd h (by omega))
    refine z_iload_n K 1 dX0_withMoral_34 rfl ?_
    exact z_iret K dX0_withMoral_35 ((by first | (simp only [wmS, z_fold, Bool.false_eq_true, if_false, if_true, ↓reduceIte]; done) | rfl | simp [wmS, z_fold])) [] rfl (by decide) (by decide)
  · refine z_iload_n K 0 dX0_withMoral_4 rfl ?_
    refine z_aload_n K 2 dX0_withMoral_5 rfl ?_
    refine z_get (C := RX0) (T := TX0) (N := 7) (ci := 0) K iX0 rfl 0 rfl 0 (by decide) (by decide +kernel) rfl rfl dX0_withMoral_6 ?_
    refine z_cmpN K 34 k n dX0_withMoral_9 (by decide) rfl rfl (by omega) (by omega) (fun h => absurd h (by omega)) (fun _ => ?_)
    refine z_aload_n K 2 dX0_withMoral_12 rfl ?_
    refine z_get (C := RX0) (T := TX0) (N := 7) (ci := 0) K iX0 rfl 0 rfl 1 (by decide) (by decide +kernel) rfl rfl dX0_withMoral_13 ?_
    refine z_iload_n K 0 dX0_withMoral_16 rfl ?_
    refine z_ialdN K 1 0 k (by omega) (by omega) rfl rfl dX0_withMoral_17 ?_
    refine z_iload_n K 3 dX0_withMoral_18 rfl ?_
    refine z_icmp_ne K 28 dX0_withMoral_19 (by decide) (fun c19 => ?_) (fun c19 => ?_)
    · refine z_iinc (lv' := [(3, .int (nI (k + 1))), (2, .int (wmS fm w k)), (0, .ref aB), (1, .int w)]) (v := nI (k + 1)) K 0 dX0_withMoral_28 rfl (z_inc1 k) (by decide) rfl ?_
      refine z_goto K 4 dX0_withMoral_31 (by decide) ?_
      rw [show (wmS fm w (k + 1)) = (wmS fm w k) from (by first | (simp only [wmS, z_fold, c19, Bool.false_eq_true, if_false, if_true, ↓reduceIte]; done) | rfl | simp [wmS, z_fold, c19])] at ihk
      exact ihk
    · refine z_iload_n K 1 dX0_withMoral_22 rfl ?_
      refine z_iconst (v := 1) K dX0_withMoral_23 (by decide) ?_
      refine z_iload_n K 0 dX0_withMoral_24 rfl ?_
      refine z_ishl K dX0_withMoral_25 ?_
      refine z_ior K dX0_withMoral_26 ?_
      refine z_istore_n (lv' := [(2, .int (wmS fm w k ||| ((1 : Int32) <<< ((nI k) &&& 31)))), (3, .int (nI k)), (0, .ref aB), (1, .int w)]) K dX0_withMoral_27 (by decide) rfl ?_
      refine z_iinc (lv' := [(3, .int (nI (k + 1))), (2, .int (wmS fm w k ||| ((1 : Int32) <<< ((nI k) &&& 31)))), (0, .ref aB), (1, .int w)]) (v := nI (k + 1)) K 1 dX0_withMoral_28 rfl (z_inc1 k) (by decide) rfl ?_
      refine z_goto K 4 dX0_withMoral_31 (by decide) ?_
      rw [show (wmS fm w (k + 1)) = (wmS fm w k ||| ((1 : Int32) <<< ((nI k) &&& 31))) from (by first | (simp only [wmS, z_fold, c19, Bool.false_eq_true, if_false, if_true, ↓reduceIte]; done) | rfl | simp [wmS, z_fold, c19])] at ihk
      exact ihk

set_option maxRecDepth 100000 in
set_option maxHeartbeats 4000000 in
theorem m_X0_withBeast (l : Launch) (G : Nat → Prop) (D : va_G) (cI cZ cQ cW : ClassId) (aB : Nat) (w : Int32) (n : Nat) (aB0 : Nat) (aB1 : Nat) (aB2 : Nat) (aB3 : Nat) (aB4 : Nat) (aB5 : Nat) (fb : Nat → Int32) (hn : n ≤ 20) : z_M l yX0_withBeast wsX0_withBeast { frames := 1, cells := 0, slots := 0, locals := 21 } G D [(cI, .int), (cZ, .boolean), (cQ, .array .int), (cW, .array .boolean)] [.ref aB, .int w] ([(aB, .inr (0, [.int (nI n), .ref aB0, .ref aB1, .ref aB2, .ref aB3, .ref aB4, .ref aB5])), (aB1, .inl (cI, 20, .inl fb))]) (some (.int (wbS fb w n))) [] 0 0 := by
  have iX0 : ∀ w ∈ u_ws RX0 TX0 7, w ∈ wsX0_withBeast := fun w h => List.mem_cons_of_mem _ (List.mem_append_right _ h)
  refine z_ofW (cc := cX0_withBeast) (nL := 4) (ret := (some .int)) (by decide) rfl (Nat.le_of_ble_eq_true rfl) [] rfl (lv0 := [(0, .ref aB), (1, .int w)]) rfl ?_
  intro p e s m args below meth c K
  refine z_iconst (v := 0) K dX0_withBeast_0 (by decide) ?_
  refine z_istore_n (lv' := [(2, .int 0), (0, .ref aB), (1, .int w)]) K dX0_withBeast_1 (by decide) rfl ?_
  refine z_iconst (v := 0) K dX0_withBeast_2 (by decide) ?_
  refine z_istore_n (lv' := [(3, .int 0), (2, .int 0), (0, .ref aB), (1, .int w)]) K dX0_withBeast_3 (by decide) rfl ?_
  refine z_loop (wsf := fun k => [(aB, .inr (0, [.int (nI n), .ref aB0, .ref aB1, .ref aB2, .ref aB3, .ref aB4, .ref aB5])), (aB1, .inl (cI, 20, .inl fb))]) (lvf := fun k => [(3, .int (nI k)), (2, .int (wbS fb w k)), (0, .ref aB), (1, .int w)]) n rfl rfl ?_ (fun k hk ihk => ?_)
  · refine z_iload_n K 0 dX0_withBeast_4 rfl ?_
    refine z_aload_n K 2 dX0_withBeast_5 rfl ?_
    refine z_get (C := RX0) (T := TX0) (N := 7) (ci := 0) K iX0 rfl 0 rfl 0 (by decide) (by decide +kernel) rfl rfl dX0_withBeast_6 ?_
    refine z_cmpN K 37 n n dX0_withBeast_9 (by decide) rfl rfl (by omega) (by omega) (fun _ => ?_) (fun h => absurd h (by omega))
    refine z_iload_n K 1 dX0_withBeast_37 rfl ?_
    exact z_iret K dX0_withBeast_38 ((by first | (simp only [wbS, z_fold, Bool.false_eq_true, if_false, if_true, ↓reduceIte]; done) | rfl | simp [wbS, z_fold])) [] rfl (by decide) (by decide)
  · refine z_iload_n K 0 dX0_withBeast_4 rfl ?_
    refine z_aload_n K 2 dX0_withBeast_5 rfl ?_
    refine z_get (C := RX0) (T := TX0) (N := 7) (ci := 0) K iX0 rfl 0 rfl 0 (by decide) (by decide +kernel) rfl rfl dX0_withBeast_6 ?_
    refine z_cmpN K 37 k n dX0_withBeast_9 (by decide) rfl rfl (by omega) (by omega) (fun h => absurd h (by omega)) (fun _ => ?_)
    refine z_aload_n K 2 dX0_withBeast_12 rfl ?_
    refine z_get (C := RX0) (T := TX0) (N := 7) (ci := 0) K iX0 rfl 0 rfl 2 (by decide) (by decide +kernel) rfl rfl dX0_withBeast_13 ?_
    refine z_iload_n K 0 dX0_withBeast_16 rfl ?_
    refine z_ialdN K 1 0 k (by omega) (by omega) rfl rfl dX0_withBeast_17 ?_
    refine z_iload_n K 3 dX0_withBeast_18 rfl ?_
    refine z_callSN (st' := [.int (z_b (hs (fb k) w))]) (rest := []) K (m_X2_has l _ D cI cZ cQ cW (fb k) w ) gX0_withBeast_X2_has_n34 rfl 2 (host := "FableIndex") (by decide) (by decide +kernel) (by decide +kernel) (by decide +kernel) dX0_withBeast_19 rfl rfl ⟨by decide, by decide⟩ ⟨by decide, by decide⟩ rfl rfl (Nat.le_of_ble_eq_true rfl) rfl ?_
    refine z_if_eqB K 31 dX0_withBeast_22 (by decide) (fun c22 => ?_) (fun c22 => ?_)
    · refine z_iinc (lv' := [(3, .int (nI (k + 1))), (2, .int (wbS fb w k)), (0, .ref aB), (1, .int w)]) (v := nI (k + 1)) K 0 dX0_withBeast_31 rfl (z_inc1 k) (by decide) rfl ?_
      refine z_goto K 4 dX0_withBeast_34 (by decide) ?_
      rw [show (wbS fb w (k + 1)) = (wbS fb w k) from (by first | (simp only [wbS, z_fold, c22, Bool.false_eq_true, if_false, if_true, ↓reduceIte]; done) | rfl | simp [wbS, z_fold, c22])] at ihk
      exact ihk
    · refine z_iload_n K 1 dX0_withBeast_25 rfl ?_
      refine z_iconst (v := 1) K dX0_withBeast_26 (by decide) ?_
      refine z_iload_n K 0 dX0_withBeast_27 rfl ?_
      refine z_ishl K dX0_withBeast_28 ?_
      refine z_ior K dX0_withBeast_29 ?_
      refine z_istore_n (lv' := [(2, .int (wbS fb w k ||| ((1 : Int32) <<< ((nI k) &&& 31)))), (3, .int (nI k)), (0, .ref aB), (1, .int w)]) K dX0_withBeast_30 (by decide) rfl ?_
      refine z_iinc (lv' := [(3, .int (nI (k + 1))), (2, .int (wbS fb w k ||| ((1 : Int32) <<< ((nI k) &&& 31)))), (0, .ref aB), (1, .int w)]) (v := nI (k + 1)) K 1 dX0_withBeast_31 rfl (z_inc1 k) (by decide) rfl ?_
      refine z_goto K 4 dX0_withBeast_34 (by decide) ?_
      rw [show (wbS fb w (k + 1)) = (wbS fb w k ||| ((1 : Int32) <<< ((nI k) &&& 31))) from (by first | (simp only [wbS, z_fold, c22, Bool.false_eq_true, if_false, if_true, ↓reduceIte]; done) | rfl | simp [wbS, z_fold, c22])] at ihk
      exact ihk

set_option maxRecDepth 100000 in
set_option maxHeartbeats 4000000 in
theorem m_X0_write (l : Launch) (G : Nat → Prop) (D : va_G) (cI cZ cQ cW : ClassId) (aB : Nat) (w : Int32) (x : Int32) (y : Int32) (pw : Int32) (n : Nat) (aB0 : Nat) (aB1 : Nat) (aB2 : Nat) (aB3 : Nat) (aB4 : Nat) (aB5 : Nat) (fm : Nat → Int32) (fb : Nat → Int32) (fh : Nat → Int32) (fp : Nat → Int32) (fv : Nat → Int32) (fa : Nat → Int32) (hn : n < 20) (hp : pw = -1 ∨ ∃ j : Nat, j < n ∧ pw = nI j) : z_M l yX0_write wsX0_write { frames := 0, cells := 0, slots := 0, locals := 0 } G D [(cI, .int), (cZ, .boolean), (cQ, .array .int), (cW, .array .boolean)] [.ref aB, .int w, .int x, .int y, .int pw] ([(aB, .inr (0, [.int (nI n), .ref aB0, .ref aB1, .ref aB2, .ref aB3, .ref aB4, .ref aB5])), (aB0, .inl (cI, 20, .inl fm)), (aB1, .inl (cI, 20, .inl fb)), (aB2, .inl (cI, 20, .inl fh)), (aB3, .inl (cI, 20, .inl fp)), (aB4, .inl (cI, 20, .inl fv)), (aB5, .inl (cI, 20, .inl fa))]) (some (.int (nI n))) [(aB, .inr (0, [.int (nI (n + 1)), .ref aB0, .ref aB1, .ref aB2, .ref aB3, .ref aB4, .ref aB5])), (aB0, .inl (cI, 20, .inl (upd fm n w))), (aB1, .inl (cI, 20, .inl (upd fb n x))), (aB2, .inl (cI, 20, .inl (upd fh n y))), (aB3, .inl (cI, 20, .inl (upd fp n pw))), (aB4, .inl (cI, 20, .inl (wrV fv n pw))), (aB5, .inl (cI, 20, .inl (wrA fa n pw)))] 0 0 := by
  have iX0 : ∀ w ∈ u_ws RX0 TX0 7, w ∈ wsX0_write := fun w h => List.mem_cons_of_mem _ (List.mem_append_right _ h)
  refine z_ofW (cc := cX0_write) (nL := 6) (ret := (some .int)) (by decide) rfl (Nat.le_of_ble_eq_true rfl) [0, 1, 2, 3, 4, 5, 6] rfl (lv0 := [(0, .ref aB), (1, .int w), (2, .int x), (3, .int y), (4, .int pw)]) rfl ?_
  intro p e s m args below meth c K
  refine z_aload_n K 0 dX0_write_0 rfl ?_
  refine z_get (C := RX0) (T := TX0) (N := 7) (ci := 0) K iX0 rfl 0 rfl 0 (by decide) (by decide +kernel) rfl rfl dX0_write_1 ?_
  refine z_istore (lv' := [(5, .int (nI n)), (0, .ref aB), (1, .int w), (2, .int x), (3, .int y), (4, .int pw)]) K dX0_write_4 (by decide) rfl ?_
  refine z_aload_n K 1 dX0_write_6 rfl ?_
  refine z_get (C := RX0) (T := TX0) (N := 7) (ci := 0) K iX0 rfl 0 rfl 1 (by decide) (by decide +kernel) rfl rfl dX0_write_7 ?_
  refine z_iload K 0 dX0_write_10 rfl ?_
  refine z_iload_n K 2 dX0_write_12 rfl ?_
  refine z_iastN K 1 0 n (by omega) (by omega) rfl rfl dX0_write_13 (z_memA 1 rfl) (ws' := [(aB, .inr (0, [.int (nI n), .ref aB0, .ref aB1, .ref aB2, .ref aB3, .ref aB4, .ref aB5])), (aB0, .inl (cI, 20, .inl (upd fm n w))), (aB1, .inl (cI, 20, .inl fb)), (aB2, .inl (cI, 20, .inl fh)), (aB3, .inl (cI, 20, .inl fp)), (aB4, .inl (cI, 20, .inl fv)), (aB5, .inl (cI, 20, .inl fa))]) rfl ?_
  refine z_aload_n K 1 dX0_write_14 rfl ?_
  refine z_get (C := RX0) (T := TX0) (N := 7) (ci := 0) K iX0 rfl 0 rfl 2 (by decide) (by decide +kernel) rfl rfl dX0_write_15 ?_
  refine z_iload K 0 dX0_write_18 rfl ?_
  refine z_iload_n K 3 dX0_write_20 rfl ?_
  refine z_iastN K 2 0 n (by omega) (by omega) rfl rfl dX0_write_21 (z_memA 2 rfl) (ws' := [(aB, .inr (0, [.int (nI n), .ref aB0, .ref aB1, .ref aB2, .ref aB3, .ref aB4, .ref aB5])), (aB0, .inl (cI, 20, .inl (upd fm n w))), (aB1, .inl (cI, 20, .inl (upd fb n x))), (aB2, .inl (cI, 20, .inl fh)), (aB3, .inl (cI, 20, .inl fp)), (aB4, .inl (cI, 20, .inl fv)), (aB5, .inl (cI, 20, .inl fa))]) rfl ?_
  refine z_aload_n K 1 dX0_write_22 rfl ?_
  refine z_get (C := RX0) (T := TX0) (N := 7) (ci := 0) K iX0 rfl 0 rfl 3 (by decide) (by decide +kernel) rfl rfl dX0_write_23 ?_
  refine z_iload K 0 dX0_write_26 rfl ?_
  refine z_iload_n K 4 dX0_write_28 rfl ?_
  refine z_iastN K 3 0 n (by omega) (by omega) rfl rfl dX0_write_29 (z_memA 3 rfl) (ws' := [(aB, .inr (0, [.int (nI n), .ref aB0, .ref aB1, .ref aB2, .ref aB3, .ref aB4, .ref aB5])), (aB0, .inl (cI, 20, .inl (upd fm n w))), (aB1, .inl (cI, 20, .inl (upd fb n x))), (aB2, .inl (cI, 20, .inl (upd fh n y))), (aB3, .inl (cI, 20, .inl fp)), (aB4, .inl (cI, 20, .inl fv)), (aB5, .inl (cI, 20, .inl fa))]) rfl ?_
  refine z_aload_n K 1 dX0_write_30 rfl ?_
  refine z_get (C := RX0) (T := TX0) (N := 7) (ci := 0) K iX0 rfl 0 rfl 4 (by decide) (by decide +kernel) rfl rfl dX0_write_31 ?_
  refine z_iload K 0 dX0_write_34 rfl ?_
  refine z_iload K 5 dX0_write_36 rfl ?_
  refine z_iastN K 4 0 n (by omega) (by omega) rfl rfl dX0_write_38 (z_memA 4 rfl) (ws' := [(aB, .inr (0, [.int (nI n), .ref aB0, .ref aB1, .ref aB2, .ref aB3, .ref aB4, .ref aB5])), (aB0, .inl (cI, 20, .inl (upd fm n w))), (aB1, .inl (cI, 20, .inl (upd fb n x))), (aB2, .inl (cI, 20, .inl (upd fh n y))), (aB3, .inl (cI, 20, .inl (upd fp n pw))), (aB4, .inl (cI, 20, .inl fv)), (aB5, .inl (cI, 20, .inl fa))]) rfl ?_
  refine z_aload_n K 1 dX0_write_39 rfl ?_
  refine z_get (C := RX0) (T := TX0) (N := 7) (ci := 0) K iX0 rfl 0 rfl 5 (by decide) (by decide +kernel) rfl rfl dX0_write_40 ?_
  refine z_iload K 0 dX0_write_43 rfl ?_
  refine z_iconst (v := 0) K dX0_write_45 (by decide) ?_
  refine z_iastN K 5 0 n (by omega) (by omega) rfl rfl dX0_write_46 (z_memA 5 rfl) (ws' := [(aB, .inr (0, [.int (nI n), .ref aB0, .ref aB1, .ref aB2, .ref aB3, .ref aB4, .ref aB5])), (aB0, .inl (cI, 20, .inl (upd fm n w))), (aB1, .inl (cI, 20, .inl (upd fb n x))), (aB2, .inl (cI, 20, .inl (upd fh n y))), (aB3, .inl (cI, 20, .inl (upd fp n pw))), (aB4, .inl (cI, 20, .inl (upd fv n 0))), (aB5, .inl (cI, 20, .inl fa))]) rfl ?_
  refine z_aload_n K 1 dX0_write_47 rfl ?_
  refine z_get (C := RX0) (T := TX0) (N := 7) (ci := 0) K iX0 rfl 0 rfl 6 (by decide) (by decide +kernel) rfl rfl dX0_write_48 ?_
  refine z_iload K 0 dX0_write_51 rfl ?_
  refine z_iconst (v := 1) K dX0_write_53 (by decide) ?_
  refine z_iload K 0 dX0_write_54 rfl ?_
  refine z_ishl K dX0_write_56 ?_
  refine z_iastN K 6 0 n (by omega) (by omega) rfl rfl dX0_write_57 (z_memA 6 rfl) (ws' := [(aB, .inr (0, [.int (nI n), .ref aB0, .ref aB1, .ref aB2, .ref aB3, .ref aB4, .ref aB5])), (aB0, .inl (cI, 20, .inl (upd fm n w))), (aB1, .inl (cI, 20, .inl (upd fb n x))), (aB2, .inl (cI, 20, .inl (upd fh n y))), (aB3, .inl (cI, 20, .inl (upd fp n pw))), (aB4, .inl (cI, 20, .inl (upd fv n 0))), (aB5, .inl (cI, 20, .inl (upd fa n ((1 : Int32) <<< (nI n &&& 31)))))]) rfl ?_
  refine z_iload K 5 dX0_write_58 rfl ?_
  refine z_if_lt K 94 dX0_write_60 (by decide) (fun c60 => ?_) (fun c60 => ?_)
  · refine z_aload_n K 1 dX0_write_94 rfl ?_
    refine z_dup K dX0_write_95 rfl ?_
    refine z_get (C := RX0) (T := TX0) (N := 7) (ci := 0) K iX0 rfl 0 rfl 0 (by decide) (by decide +kernel) rfl rfl dX0_write_96 ?_
    refine z_iconst (v := 1) K dX0_write_99 (by decide) ?_
    refine z_iadd K dX0_write_100 ?_
    refine z_put (C := RX0) (T := TX0) (N := 7) (ci := 0) K iX0 rfl tyX0 tyX0_ok nmX0 0 rfl 0 (by decide) (by decide +kernel) rfl rfl rfl rfl (Nat.le_of_ble_eq_true rfl) (z_memA 0 rfl) (ws' := [(aB, .inr (0, [.int (nI n + 1), .ref aB0, .ref aB1, .ref aB2, .ref aB3, .ref aB4, .ref aB5])), (aB0, .inl (cI, 20, .inl (upd fm n w))), (aB1, .inl (cI, 20, .inl (upd fb n x))), (aB2, .inl (cI, 20, .inl (upd fh n y))), (aB3, .inl (cI, 20, .inl (upd fp n pw))), (aB4, .inl (cI, 20, .inl (upd fv n 0))), (aB5, .inl (cI, 20, .inl (upd fa n ((1 : Int32) <<< (nI n &&& 31)))))]) rfl dX0_write_101 ?_
    refine z_iload K 0 dX0_write_104 rfl ?_
    rw [show (upd fa n ((1 : Int32) <<< (nI n &&& 31))) = (wrA fa n pw) from (by first | exact nI_1 n | (simp only [wrV, wrA, if_pos c60]; done))]
    rw [show (upd fv n 0) = (wrV fv n pw) from (by first | exact nI_1 n | (simp only [wrV, wrA, if_pos c60]; done))]
    rw [show (nI n + 1) = (nI (n + 1)) from (by first | exact nI_1 n | (simp only [wrV, wrA, if_pos c60]; done))]
    rw [show (nI n) = (nI n) from (by first | exact nI_1 n | (simp only [wrV, wrA, if_pos c60]; done))]
    exact z_iret K dX0_write_106 (rfl) [0, 1, 2, 3, 4, 5, 6] rfl (by decide) (by decide)
  · obtain ⟨j, hj, rfl⟩ : ∃ j : Nat, j < n ∧ pw = nI j := hp.resolve_left (fun h => c60 (by rw [h]; decide))
    refine z_aload_n K 1 dX0_write_63 rfl ?_
    refine z_get (C := RX0) (T := TX0) (N := 7) (ci := 0) K iX0 rfl 0 rfl 5 (by decide) (by decide +kernel) rfl rfl dX0_write_64 ?_
    refine z_iload K 5 dX0_write_67 rfl ?_
    refine z_dup2 K dX0_write_69 rfl rfl ?_
    refine z_ialdN K 5 0 j (by omega) (by omega) rfl rfl dX0_write_70 ?_
    refine z_iconst (v := 1) K dX0_write_71 (by decide) ?_
    refine z_iload K 0 dX0_write_72 rfl ?_
    refine z_ishl K dX0_write_74 ?_
    refine z_ior K dX0_write_75 ?_
    refine z_iastN K 5 0 j (by omega) (by omega) rfl rfl dX0_write_76 (z_memA 5 rfl) (ws' := [(aB, .inr (0, [.int (nI n), .ref aB0, .ref aB1, .ref aB2, .ref aB3, .ref aB4, .ref aB5])), (aB0, .inl (cI, 20, .inl (upd fm n w))), (aB1, .inl (cI, 20, .inl (upd fb n x))), (aB2, .inl (cI, 20, .inl (upd fh n y))), (aB3, .inl (cI, 20, .inl (upd fp n (nI j)))), (aB4, .inl (cI, 20, .inl (upd (upd fv n 0) j (((upd fv n 0) j) ||| ((1 : Int32) <<< (nI n &&& 31)))))), (aB5, .inl (cI, 20, .inl (upd fa n ((1 : Int32) <<< (nI n &&& 31)))))]) rfl ?_
    refine z_aload_n K 1 dX0_write_77 rfl ?_
    refine z_get (C := RX0) (T := TX0) (N := 7) (ci := 0) K iX0 rfl 0 rfl 6 (by decide) (by decide +kernel) rfl rfl dX0_write_78 ?_
    refine z_iload K 0 dX0_write_81 rfl ?_
    refine z_dup2 K dX0_write_83 rfl rfl ?_
    refine z_ialdN K 6 0 n (by omega) (by omega) rfl rfl dX0_write_84 ?_
    refine z_aload_n K 1 dX0_write_85 rfl ?_
    refine z_get (C := RX0) (T := TX0) (N := 7) (ci := 0) K iX0 rfl 0 rfl 6 (by decide) (by decide +kernel) rfl rfl dX0_write_86 ?_
    refine z_iload K 5 dX0_write_89 rfl ?_
    refine z_ialdN K 6 0 j (by omega) (by omega) rfl rfl dX0_write_91 ?_
    refine z_ior K dX0_write_92 ?_
    refine z_iastN K 6 0 n (by omega) (by omega) rfl rfl dX0_write_93 (z_memA 6 rfl) (ws' := [(aB, .inr (0, [.int (nI n), .ref aB0, .ref aB1, .ref aB2, .ref aB3, .ref aB4, .ref aB5])), (aB0, .inl (cI, 20, .inl (upd fm n w))), (aB1, .inl (cI, 20, .inl (upd fb n x))), (aB2, .inl (cI, 20, .inl (upd fh n y))), (aB3, .inl (cI, 20, .inl (upd fp n (nI j)))), (aB4, .inl (cI, 20, .inl (upd (upd fv n 0) j (((upd fv n 0) j) ||| ((1 : Int32) <<< (nI n &&& 31)))))), (aB5, .inl (cI, 20, .inl (upd (upd fa n ((1 : Int32) <<< (nI n &&& 31))) n (((upd fa n ((1 : Int32) <<< (nI n &&& 31))) n) ||| ((upd fa n ((1 : Int32) <<< (nI n &&& 31))) j)))))]) rfl ?_
    refine z_aload_n K 1 dX0_write_94 rfl ?_
    refine z_dup K dX0_write_95 rfl ?_
    refine z_get (C := RX0) (T := TX0) (N := 7) (ci := 0) K iX0 rfl 0 rfl 0 (by decide) (by decide +kernel) rfl rfl dX0_write_96 ?_
    refine z_iconst (v := 1) K dX0_write_99 (by decide) ?_
    refine z_iadd K dX0_write_100 ?_
    refine z_put (C := RX0) (T := TX0) (N := 7) (ci := 0) K iX0 rfl tyX0 tyX0_ok nmX0 0 rfl 0 (by decide) (by decide +kernel) rfl rfl rfl rfl (Nat.le_of_ble_eq_true rfl) (z_memA 0 rfl) (ws' := [(aB, .inr (0, [.int (nI n + 1), .ref aB0, .ref aB1, .ref aB2, .ref aB3, .ref aB4, .ref aB5])), (aB0, .inl (cI, 20, .inl (upd fm n w))), (aB1, .inl (cI, 20, .inl (upd fb n x))), (aB2, .inl (cI, 20, .inl (upd fh n y))), (aB3, .inl (cI, 20, .inl (upd fp n (nI j)))), (aB4, .inl (cI, 20, .inl (upd (upd fv n 0) j (((upd fv n 0) j) ||| ((1 : Int32) <<< (nI n &&& 31)))))), (aB5, .inl (cI, 20, .inl (upd (upd fa n ((1 : Int32) <<< (nI n &&& 31))) n (((upd fa n ((1 : Int32) <<< (nI n &&& 31))) n) ||| ((upd fa n ((1 : Int32) <<< (nI n &&& 31))) j)))))]) rfl dX0_write_101 ?_
    refine z_iload K 0 dX0_write_104 rfl ?_
    rw [show (upd (upd fa n ((1 : Int32) <<< (nI n &&& 31))) n (((upd fa n ((1 : Int32) <<< (nI n &&& 31))) n) ||| ((upd fa n ((1 : Int32) <<< (nI n &&& 31))) j))) = (wrA fa n (nI j)) from (by first | exact nI_1 n | (simp only [wrV, wrA, if_neg c60, nI_clamp (show j < 2 ^ 31 by omega)]; done))]
    rw [show (upd (upd fv n 0) j (((upd fv n 0) j) ||| ((1 : Int32) <<< (nI n &&& 31)))) = (wrV fv n (nI j)) from (by first | exact nI_1 n | (simp only [wrV, wrA, if_neg c60, nI_clamp (show j < 2 ^ 31 by omega)]; done))]
    rw [show (nI n + 1) = (nI (n + 1)) from (by first | exact nI_1 n | (simp only [wrV, wrA, if_neg c60, nI_clamp (show j < 2 ^ 31 by omega)]; done))]
    rw [show (nI n) = (nI n) from (by first | exact nI_1 n | (simp only [wrV, wrA, if_neg c60, nI_clamp (show j < 2 ^ 31 by omega)]; done))]
    exact z_iret K dX0_write_106 (rfl) [0, 1, 2, 3, 4, 5, 6] rfl (by decide) (by decide)

set_option maxRecDepth 100000 in
set_option maxHeartbeats 4000000 in
theorem m_X1_turnWay (l : Launch) (G : Nat → Prop) (D : va_G) (cI cZ cQ cW : ClassId) (aL : Nat) (i : Nat) (j : Nat) (aL0 : Nat) (aL1 : Nat) (aL2 : Nat) (aL3 : Nat) (aL4 : Nat) (aL5 : Nat) (hu : Int32) (lw : Nat → Int32) (hi : i < 6) (hj : j < 6) : z_M l yX1_turnWay wsX1_turnWay { frames := 1, cells := 0, slots := 0, locals := 21 } G D [(cI, .int), (cZ, .boolean), (cQ, .array .int), (cW, .array .boolean)] [.ref aL, .int (nI i), .int (nI j)] ([(aL, .inr (1, [.ref aL0, .ref aL1, .ref aL2, .ref aL3, .ref aL4, .ref aL5, .int hu])), (aL0, .inl (cI, 6, .inl lw))]) none [(aL0, .inl (cI, 6, .inl (turnW lw i j)))] 0 0 := by
  have iX1 : ∀ w ∈ u_ws RX1 TX1 7, w ∈ wsX1_turnWay := fun w h => List.mem_cons_of_mem _ (List.mem_append_right _ h)
  refine z_ofW (cc := cX1_turnWay) (nL := 3) (ret := none) (by decide) rfl (Nat.le_of_ble_eq_true rfl) [1] rfl (lv0 := [(0, .ref aL), (1, .int (nI i)), (2, .int (nI j))]) rfl ?_
  intro p e s m args below meth c K
  refine z_aload_n K 0 dX1_turnWay_0 rfl ?_
  refine z_get (C := RX1) (T := TX1) (N := 7) (ci := 1) K iX1 rfl 0 rfl 0 (by decide) (by decide +kernel) rfl rfl dX1_turnWay_1 ?_
  refine z_iload_n K 1 dX1_turnWay_4 rfl ?_
  refine z_aload_n K 0 dX1_turnWay_5 rfl ?_
  refine z_get (C := RX1) (T := TX1) (N := 7) (ci := 1) K iX1 rfl 0 rfl 0 (by decide) (by decide +kernel) rfl rfl dX1_turnWay_6 ?_
  refine z_iload_n K 1 dX1_turnWay_9 rfl ?_
  refine z_ialdN K 1 0 i (by omega) (by omega) rfl rfl dX1_turnWay_10 ?_
  refine z_iload_n K 2 dX1_turnWay_11 rfl ?_
  refine z_callSN (st' := [.int (tu (lw i) (nI j)), .int (nI i), .ref aL0]) (rest := [.int (nI i), .ref aL0]) K (m_X2_turned l _ D cI cZ cQ cW (lw i) (nI j) ) gX1_turnWay_X2_turned_n34 rfl 2 (host := "FableIndex") (by decide) (by decide +kernel) (by decide +kernel) (by decide +kernel) dX1_turnWay_12 rfl rfl ⟨by decide, by decide⟩ ⟨by decide, by decide⟩ rfl rfl (Nat.le_of_ble_eq_true rfl) rfl ?_
  refine z_iastN K 1 0 i (by omega) (by omega) rfl rfl dX1_turnWay_15 (z_memA 0 rfl) (ws' := [(aL, .inr (1, [.ref aL0, .ref aL1, .ref aL2, .ref aL3, .ref aL4, .ref aL5, .int hu])), (aL0, .inl (cI, 6, .inl (upd lw i (tu (lw i) (nI j)))))]) rfl ?_
  refine z_aload_n K 0 dX1_turnWay_16 rfl ?_
  refine z_get (C := RX1) (T := TX1) (N := 7) (ci := 1) K iX1 rfl 0 rfl 0 (by decide) (by decide +kernel) rfl rfl dX1_turnWay_17 ?_
  refine z_iload_n K 2 dX1_turnWay_20 rfl ?_
  refine z_aload_n K 0 dX1_turnWay_21 rfl ?_
  refine z_get (C := RX1) (T := TX1) (N := 7) (ci := 1) K iX1 rfl 0 rfl 0 (by decide) (by decide +kernel) rfl rfl dX1_turnWay_22 ?_
  refine z_iload_n K 2 dX1_turnWay_25 rfl ?_
  refine z_ialdN K 1 0 j (by omega) (by omega) rfl rfl dX1_turnWay_26 ?_
  refine z_iload_n K 1 dX1_turnWay_27 rfl ?_
  refine z_callSN (st' := [.int (tu ((upd lw i (tu (lw i) (nI j))) j) (nI i)), .int (nI j), .ref aL0]) (rest := [.int (nI j), .ref aL0]) K (m_X2_turned l _ D cI cZ cQ cW ((upd lw i (tu (lw i) (nI j))) j) (nI i) ) gX1_turnWay_X2_turned_n34 rfl 2 (host := "FableIndex") (by decide) (by decide +kernel) (by decide +kernel) (by decide +kernel) dX1_turnWay_28 rfl rfl ⟨by decide, by decide⟩ ⟨by decide, by decide⟩ rfl rfl (Nat.le_of_ble_eq_true rfl) rfl ?_
  refine z_iastN K 1 0 j (by omega) (by omega) rfl rfl dX1_turnWay_31 (z_memA 0 rfl) (ws' := [(aL, .inr (1, [.ref aL0, .ref aL1, .ref aL2, .ref aL3, .ref aL4, .ref aL5, .int hu])), (aL0, .inl (cI, 6, .inl (upd (upd lw i (tu (lw i) (nI j))) j (tu ((upd lw i (tu (lw i) (nI j))) j) (nI i)))))]) rfl ?_
  rw [show (upd (upd lw i (tu (lw i) (nI j))) j (tu ((upd lw i (tu (lw i) (nI j))) j) (nI i))) = (turnW lw i j) from rfl]
  exact z_vret K dX1_turnWay_32 [1] rfl (by decide) (by decide)

set_option maxRecDepth 100000 in
set_option maxHeartbeats 4000000 in
theorem m_X1_welcome (l : Launch) (G : Nat → Prop) (D : va_G) (cI cZ cQ cW : ClassId) (aL : Nat) (aB : Nat) (v : Nat) (aL0 : Nat) (aL1 : Nat) (aL2 : Nat) (aL3 : Nat) (aL4 : Nat) (aL5 : Nat) (hu : Int32) (lm : Nat → Int32) (lb : Nat → Int32) (n : Nat) (aB0 : Nat) (aB1 : Nat) (aB2 : Nat) (aB3 : Nat) (aB4 : Nat) (aB5 : Nat) (fm : Nat → Int32) (fb : Nat → Int32) (hn : n ≤ 20) (hv : v < 6) : z_M l yX1_welcome wsX1_welcome { frames := 2, cells := 0, slots := 0, locals := 44 } G D [(cI, .int), (cZ, .boolean), (cQ, .array .int), (cW, .array .boolean)] [.ref aL, .ref aB, .int (nI v)] ([(aL, .inr (1, [.ref aL0, .ref aL1, .ref aL2, .ref aL3, .ref aL4, .ref aL5, .int hu])), (aL1, .inl (cI, 6, .inl lm)), (aL2, .inl (cI, 6, .inl lb)), (aB, .inr (0, [.int (nI n), .ref aB0, .ref aB1, .ref aB2, .ref aB3, .ref aB4, .ref aB5])), (aB0, .inl (cI, 20, .inl fm)), (aB1, .inl (cI, 20, .inl fb))]) (some (.int (welS lm lb fm fb v n))) [] 0 0 := by
  have iX0 : ∀ w ∈ u_ws RX0 TX0 7, w ∈ wsX1_welcome := fun w h => List.mem_cons_of_mem _ (List.mem_append_left _ (List.mem_append_right _ h))
  have iX1 : ∀ w ∈ u_ws RX1 TX1 7, w ∈ wsX1_welcome := fun w h => List.mem_cons_of_mem _ (List.mem_append_right _ h)
  refine z_ofW (cc := cX1_welcome) (nL := 5) (ret := (some .int)) (by decide) rfl (Nat.le_of_ble_eq_true rfl) [] rfl (lv0 := [(0, .ref aL), (1, .ref aB), (2, .int (nI v))]) rfl ?_
  intro p e s m args below meth c K
  refine z_iconst (v := 0) K dX1_welcome_0 (by decide) ?_
  refine z_istore_n (lv' := [(3, .int 0), (0, .ref aL), (1, .ref aB), (2, .int (nI v))]) K dX1_welcome_1 (by decide) rfl ?_
  refine z_iconst (v := 0) K dX1_welcome_2 (by decide) ?_
  refine z_istore (lv' := [(4, .int 0), (3, .int 0), (0, .ref aL), (1, .ref aB), (2, .int (nI v))]) K dX1_welcome_3 (by decide) rfl ?_
  refine z_loop (wsf := fun k => [(aL, .inr (1, [.ref aL0, .ref aL1, .ref aL2, .ref aL3, .ref aL4, .ref aL5, .int hu])), (aL1, .inl (cI, 6, .inl lm)), (aL2, .inl (cI, 6, .inl lb)), (aB, .inr (0, [.int (nI n), .ref aB0, .ref aB1, .ref aB2, .ref aB3, .ref aB4, .ref aB5])), (aB0, .inl (cI, 20, .inl fm)), (aB1, .inl (cI, 20, .inl fb))]) (lvf := fun k => [(4, .int (nI k)), (3, .int (welS lm lb fm fb v k)), (0, .ref aL), (1, .ref aB), (2, .int (nI v))]) n rfl rfl ?_ (fun k hk ihk => ?_)
  · refine z_iload K 0 dX1_welcome_5 rfl ?_
    refine z_aload_n K 3 dX1_welcome_7 rfl ?_
    refine z_get (C := RX0) (T := TX0) (N := 7) (ci := 0) K iX0 rfl 3 rfl 0 (by decide) (by decide +kernel) rfl rfl dX1_welcome_8 ?_
    refine z_cmpN K 38 n n dX1_welcome_11 (by decide) rfl rfl (by omega) (by omega) (fun _ => ?_) (fun h => absurd h (by omega))
    refine z_iload_n K 1 dX1_welcome_38 rfl ?_
    exact z_iret K dX1_welcome_39 ((by first | (simp only [welS, z_fold, Bool.false_eq_true, if_false, if_true, ↓reduceIte]; done) | rfl | simp [welS, z_fold])) [] rfl (by decide) (by decide)
  · refine z_iload K 0 dX1_welcome_5 rfl ?_
    refine z_aload_n K 3 dX1_welcome_7 rfl ?_
    refine z_get (C := RX0) (T := TX0) (N := 7) (ci := 0) K iX0 rfl 3 rfl 0 (by decide) (by decide +kernel) rfl rfl dX1_welcome_8 ?_
    refine z_cmpN K 38 k n dX1_welcome_11 (by decide) rfl rfl (by omega) (by omega) (fun h => absurd h (by omega)) (fun _ => ?_)
    refine z_aload_n K 2 dX1_welcome_14 rfl ?_
    refine z_aload_n K 3 dX1_welcome_15 rfl ?_
    refine z_iload K 0 dX1_welcome_16 rfl ?_
    refine z_iload_n K 4 dX1_welcome_18 rfl ?_
    refine z_callV (ws' := [(aL, .inr (1, [.ref aL0, .ref aL1, .ref aL2, .ref aL3, .ref aL4, .ref aL5, .int hu])), (aL1, .inl (cI, 6, .inl lm)), (aL2, .inl (cI, 6, .inl lb)), (aB, .inr (0, [.int (nI n), .ref aB0, .ref aB1, .ref aB2, .ref aB3, .ref aB4, .ref aB5])), (aB0, .inl (cI, 20, .inl fm)), (aB1, .inl (cI, 20, .inl fb))]) (st' := [.int (z_b (ban lm lb fm fb k v))]) (rest := []) (C := RX1) (T := TX1) (N := 7) K (m_X1_bans l _ D cI cZ cQ cW aL aB k v aL0 aL1 aL2 aL3 aL4 aL5 hu lm lb n aB0 aB1 aB2 aB3 aB4 aB5 fm fb (by omega) (by omega)) gX1_welcome_X1_bans rfl 3 1 (by decide +kernel) rfl dX1_welcome_19 [0, 1, 2, 3, 4, 5] 0 [] [] rfl rfl rfl ⟨by decide, by decide⟩ ⟨by decide, by decide⟩ rfl rfl rfl rfl rfl (Nat.le_of_ble_eq_true rfl) rfl rfl rfl rfl ?_
    refine z_if_neB K 32 dX1_welcome_22 (by decide) (fun c22 => ?_) (fun c22 => ?_)
    · refine z_iinc (lv' := [(4, .int (nI (k + 1))), (3, .int (welS lm lb fm fb v k)), (0, .ref aL), (1, .ref aB), (2, .int (nI v))]) (v := nI (k + 1)) K 0 dX1_welcome_32 rfl (z_inc1 k) (by decide) rfl ?_
      refine z_goto K 5 dX1_welcome_35 (by decide) ?_
      rw [show (welS lm lb fm fb v (k + 1)) = (welS lm lb fm fb v k) from (by first | (simp only [welS, z_fold, c22, Bool.false_eq_true, if_false, if_true, ↓reduceIte]; done) | rfl | simp [welS, z_fold, c22])] at ihk
      exact ihk
    · refine z_iload_n K 1 dX1_welcome_25 rfl ?_
      refine z_iconst (v := 1) K dX1_welcome_26 (by decide) ?_
      refine z_iload K 0 dX1_welcome_27 rfl ?_
      refine z_ishl K dX1_welcome_29 ?_
      refine z_ior K dX1_welcome_30 ?_
      refine z_istore_n (lv' := [(3, .int (welS lm lb fm fb v k ||| ((1 : Int32) <<< ((nI k) &&& 31)))), (4, .int (nI k)), (0, .ref aL), (1, .ref aB), (2, .int (nI v))]) K dX1_welcome_31 (by decide) rfl ?_
      refine z_iinc (lv' := [(4, .int (nI (k + 1))), (3, .int (welS lm lb fm fb v k ||| ((1 : Int32) <<< ((nI k) &&& 31)))), (0, .ref aL), (1, .ref aB), (2, .int (nI v))]) (v := nI (k + 1)) K 1 dX1_welcome_32 rfl (z_inc1 k) (by decide) rfl ?_
      refine z_goto K 5 dX1_welcome_35 (by decide) ?_
      rw [show (welS lm lb fm fb v (k + 1)) = (welS lm lb fm fb v k ||| ((1 : Int32) <<< ((nI k) &&& 31))) from (by first | (simp only [welS, z_fold, c22, Bool.false_eq_true, if_false, if_true, ↓reduceIte]; done) | rfl | simp [welS, z_fold, c22])] at ihk
      exact ihk

set_option maxRecDepth 100000 in
set_option maxHeartbeats 4000000 in
theorem m_X1_arriving (l : Launch) (G : Nat → Prop) (D : va_G) (cI cZ cQ cW : ClassId) (aL : Nat) (v : Nat) (aL0 : Nat) (aL1 : Nat) (aL2 : Nat) (aL3 : Nat) (aL4 : Nat) (aL5 : Nat) (hu : Int32) (lw : Nat → Int32) (lk : Nat → Int32) (hv : v < 6) : z_M l yX1_arriving wsX1_arriving { frames := 1, cells := 0, slots := 0, locals := 21 } G D [(cI, .int), (cZ, .boolean), (cQ, .array .int), (cW, .array .boolean)] [.ref aL, .int (nI v)] ([(aL, .inr (1, [.ref aL0, .ref aL1, .ref aL2, .ref aL3, .ref aL4, .ref aL5, .int hu])), (aL0, .inl (cI, 6, .inl lw)), (aL5, .inl (cI, 6, .inl lk))]) (some (.int (arrS lw lk v 6))) [] 0 0 := by
  have iX1 : ∀ w ∈ u_ws RX1 TX1 7, w ∈ wsX1_arriving := fun w h => List.mem_cons_of_mem _ (List.mem_append_right _ h)
  refine z_ofW (cc := cX1_arriving) (nL := 4) (ret := (some .int)) (by decide) rfl (Nat.le_of_ble_eq_true rfl) [] rfl (lv0 := [(0, .ref aL), (1, .int (nI v))]) rfl ?_
  intro p e s m args below meth c K
  refine z_iconst (v := 0) K dX1_arriving_0 (by decide) ?_
  refine z_istore_n (lv' := [(2, .int 0), (0, .ref aL), (1, .int (nI v))]) K dX1_arriving_1 (by decide) rfl ?_
  refine z_iconst (v := 0) K dX1_arriving_2 (by decide) ?_
  refine z_istore_n (lv' := [(3, .int 0), (2, .int 0), (0, .ref aL), (1, .int (nI v))]) K dX1_arriving_3 (by decide) rfl ?_
  refine z_loop (wsf := fun k => [(aL, .inr (1, [.ref aL0, .ref aL1, .ref aL2, .ref aL3, .ref aL4, .ref aL5, .int hu])), (aL0, .inl (cI, 6, .inl lw)), (aL5, .inl (cI, 6, .inl lk))]) (lvf := fun k => [(3, .int (nI k)), (2, .int (arrS lw lk v k)), (0, .ref aL), (1, .int (nI v))]) 6 rfl rfl ?_ (fun k hk ihk => ?_)
  · refine z_iload_n K 0 dX1_arriving_4 rfl ?_
    refine z_bipush (v := 6) K dX1_arriving_5 (by decide) ?_
    refine z_cmpN K 38 6 6 dX1_arriving_7 (by decide) rfl rfl (by omega) (by omega) (fun _ => ?_) (fun h => absurd h (by omega))
    refine z_iload_n K 1 dX1_arriving_38 rfl ?_
    exact z_iret K dX1_arriving_39 ((by first | (simp only [arrS, z_fold, Bool.false_eq_true, if_false, if_true, ↓reduceIte]; done) | rfl | simp [arrS, z_fold])) [] rfl (by decide) (by decide)
  · refine z_iload_n K 0 dX1_arriving_4 rfl ?_
    refine z_bipush (v := 6) K dX1_arriving_5 (by decide) ?_
    refine z_cmpN K 38 k 6 dX1_arriving_7 (by decide) rfl rfl (by omega) (by omega) (fun h => absurd h (by omega)) (fun _ => ?_)
    refine z_aload_n K 2 dX1_arriving_10 rfl ?_
    refine z_get (C := RX1) (T := TX1) (N := 7) (ci := 1) K iX1 rfl 0 rfl 0 (by decide) (by decide +kernel) rfl rfl dX1_arriving_11 ?_
    refine z_iload_n K 3 dX1_arriving_14 rfl ?_
    refine z_ialdN K 1 0 v (by omega) (by omega) rfl rfl dX1_arriving_15 ?_
    refine z_iload_n K 0 dX1_arriving_16 rfl ?_
    refine z_callSN (st' := [.int (z_b (hs (lw v) (nI k)))]) (rest := []) K (m_X2_has l _ D cI cZ cQ cW (lw v) (nI k) ) gX1_arriving_X2_has_n43 rfl 2 (host := "FableIndex") (by decide) (by decide +kernel) (by decide +kernel) (by decide +kernel) dX1_arriving_17 rfl rfl ⟨by decide, by decide⟩ ⟨by decide, by decide⟩ rfl rfl (Nat.le_of_ble_eq_true rfl) rfl ?_
    refine z_if_eqB K 32 dX1_arriving_20 (by decide) (fun c20 => ?_) (fun c20 => ?_)
    · refine z_iinc (lv' := [(3, .int (nI (k + 1))), (2, .int (arrS lw lk v k)), (0, .ref aL), (1, .int (nI v))]) (v := nI (k + 1)) K 0 dX1_arriving_32 rfl (z_inc1 k) (by decide) rfl ?_
      refine z_goto K 4 dX1_arriving_35 (by decide) ?_
      rw [show (arrS lw lk v (k + 1)) = (arrS lw lk v k) from (by first | (simp only [arrS, z_fold, c20, Bool.false_eq_true, if_false, if_true, ↓reduceIte]; done) | rfl | simp [arrS, z_fold, c20])] at ihk
      exact ihk
    · refine z_iload_n K 1 dX1_arriving_23 rfl ?_
      refine z_aload_n K 2 dX1_arriving_24 rfl ?_
      refine z_get (C := RX1) (T := TX1) (N := 7) (ci := 1) K iX1 rfl 0 rfl 5 (by decide) (by decide +kernel) rfl rfl dX1_arriving_25 ?_
      refine z_iload_n K 0 dX1_arriving_28 rfl ?_
      refine z_ialdN K 2 0 k (by omega) (by omega) rfl rfl dX1_arriving_29 ?_
      refine z_ior K dX1_arriving_30 ?_
      refine z_istore_n (lv' := [(2, .int (arrS lw lk v k ||| (lk k))), (3, .int (nI k)), (0, .ref aL), (1, .int (nI v))]) K dX1_arriving_31 (by decide) rfl ?_
      refine z_iinc (lv' := [(3, .int (nI (k + 1))), (2, .int (arrS lw lk v k ||| (lk k))), (0, .ref aL), (1, .int (nI v))]) (v := nI (k + 1)) K 1 dX1_arriving_32 rfl (z_inc1 k) (by decide) rfl ?_
      refine z_goto K 4 dX1_arriving_35 (by decide) ?_
      rw [show (arrS lw lk v (k + 1)) = (arrS lw lk v k ||| (lk k)) from (by first | (simp only [arrS, z_fold, c20, Bool.false_eq_true, if_false, if_true, ↓reduceIte]; done) | rfl | simp [arrS, z_fold, c20])] at ihk
      exact ihk

set_option maxRecDepth 100000 in
set_option maxHeartbeats 4000000 in
theorem m_X1_admitted (l : Launch) (G : Nat → Prop) (D : va_G) (cI cZ cQ cW : ClassId) (aL : Nat) (aB : Nat) (v : Nat) (x : Int32) (aL0 : Nat) (aL1 : Nat) (aL2 : Nat) (aL3 : Nat) (aL4 : Nat) (aL5 : Nat) (hu : Int32) (lm : Nat → Int32) (la : Nat → Int32) (n : Nat) (aB0 : Nat) (aB1 : Nat) (aB2 : Nat) (aB3 : Nat) (aB4 : Nat) (aB5 : Nat) (fm : Nat → Int32) (fv : Nat → Int32) (hn : n ≤ 20) (hv : v < 6) : z_M l yX1_admitted wsX1_admitted { frames := 1, cells := 0, slots := 0, locals := 21 } G D [(cI, .int), (cZ, .boolean), (cQ, .array .int), (cW, .array .boolean)] [.ref aL, .ref aB, .int (nI v), .int x] ([(aL, .inr (1, [.ref aL0, .ref aL1, .ref aL2, .ref aL3, .ref aL4, .ref aL5, .int hu])), (aL1, .inl (cI, 6, .inl lm)), (aL4, .inl (cI, 6, .inl la)), (aB, .inr (0, [.int (nI n), .ref aB0, .ref aB1, .ref aB2, .ref aB3, .ref aB4, .ref aB5])), (aB0, .inl (cI, 20, .inl fm)), (aB4, .inl (cI, 20, .inl fv))]) (some (.int (admS lm la fm fv v x n))) [] 0 0 := by
  have iX1 : ∀ w ∈ u_ws RX1 TX1 7, w ∈ wsX1_admitted := fun w h => List.mem_cons_of_mem _ (List.mem_append_left _ (List.mem_append_right _ h))
  have iX0 : ∀ w ∈ u_ws RX0 TX0 7, w ∈ wsX1_admitted := fun w h => List.mem_cons_of_mem _ (List.mem_append_right _ h)
  refine z_ofW (cc := cX1_admitted) (nL := 7) (ret := (some .int)) (by decide) rfl (Nat.le_of_ble_eq_true rfl) [] rfl (lv0 := [(0, .ref aL), (1, .ref aB), (2, .int (nI v)), (3, .int x)]) rfl ?_
  intro p e s m args below meth c K
  refine z_iload_n K 3 dX1_admitted_0 rfl ?_
  refine z_aload_n K 0 dX1_admitted_1 rfl ?_
  refine z_get (C := RX1) (T := TX1) (N := 7) (ci := 1) K iX1 rfl 0 rfl 4 (by decide) (by decide +kernel) rfl rfl dX1_admitted_2 ?_
  refine z_iload_n K 2 dX1_admitted_5 rfl ?_
  refine z_ialdN K 2 0 v (by omega) (by omega) rfl rfl dX1_admitted_6 ?_
  refine z_iand K dX1_admitted_7 ?_
  refine z_istore (lv' := [(4, .int (x &&& (la v))), (0, .ref aL), (1, .ref aB), (2, .int (nI v)), (3, .int x)]) K dX1_admitted_8 (by decide) rfl ?_
  refine z_iload_n K 4 dX1_admitted_10 rfl ?_
  refine z_aload_n K 1 dX1_admitted_11 rfl ?_
  refine z_get (C := RX1) (T := TX1) (N := 7) (ci := 1) K iX1 rfl 0 rfl 4 (by decide) (by decide +kernel) rfl rfl dX1_admitted_12 ?_
  refine z_iload_n K 3 dX1_admitted_15 rfl ?_
  refine z_ialdN K 2 0 v (by omega) (by omega) rfl rfl dX1_admitted_16 ?_
  refine z_iconst (v := (-1)) K dX1_admitted_17 (by decide) ?_
  refine z_ixor K dX1_admitted_18 ?_
  refine z_iand K dX1_admitted_19 ?_
  refine z_istore (lv' := [(5, .int (x &&& ((la v) ^^^ (-1)))), (4, .int (x &&& (la v))), (0, .ref aL), (1, .ref aB), (2, .int (nI v)), (3, .int x)]) K dX1_admitted_20 (by decide) rfl ?_
  refine z_iconst (v := 0) K dX1_admitted_22 (by decide) ?_
  refine z_istore (lv' := [(6, .int 0), (5, .int (x &&& ((la v) ^^^ (-1)))), (4, .int (x &&& (la v))), (0, .ref aL), (1, .ref aB), (2, .int (nI v)), (3, .int x)]) K dX1_admitted_23 (by decide) rfl ?_
  refine z_loop (wsf := fun k => [(aL, .inr (1, [.ref aL0, .ref aL1, .ref aL2, .ref aL3, .ref aL4, .ref aL5, .int hu])), (aL1, .inl (cI, 6, .inl lm)), (aL4, .inl (cI, 6, .inl la)), (aB, .inr (0, [.int (nI n), .ref aB0, .ref aB1, .ref aB2, .ref aB3, .ref aB4, .ref aB5])), (aB0, .inl (cI, 20, .inl fm)), (aB4, .inl (cI, 20, .inl fv))]) (lvf := fun k => [(6, .int (nI k)), (5, .int (x &&& ((la v) ^^^ (-1)))), (4, .int (admS lm la fm fv v x k)), (0, .ref aL), (1, .ref aB), (2, .int (nI v)), (3, .int x)]) n rfl rfl ?_ (fun k hk ihk => ?_)
  · refine z_iload K 0 dX1_admitted_25 rfl ?_
    refine z_aload_n K 4 dX1_admitted_27 rfl ?_
    refine z_get (C := RX0) (T := TX0) (N := 7) (ci := 0) K iX0 rfl 3 rfl 0 (by decide) (by decide +kernel) rfl rfl dX1_admitted_28 ?_
    refine z_cmpN K 91 n n dX1_admitted_31 (by decide) rfl rfl (by omega) (by omega) (fun _ => ?_) (fun h => absurd h (by omega))
    refine z_iload K 2 dX1_admitted_91 rfl ?_
    exact z_iret K dX1_admitted_93 ((by first | (simp only [admS, z_fold, Bool.false_eq_true, if_false, if_true, ↓reduceIte]; done) | rfl | simp [admS, z_fold])) [] rfl (by decide) (by decide)
  · refine z_iload K 0 dX1_admitted_25 rfl ?_
    refine z_aload_n K 4 dX1_admitted_27 rfl ?_
    refine z_get (C := RX0) (T := TX0) (N := 7) (ci := 0) K iX0 rfl 3 rfl 0 (by decide) (by decide +kernel) rfl rfl dX1_admitted_28 ?_
    refine z_cmpN K 91 k n dX1_admitted_31 (by decide) rfl rfl (by omega) (by omega) (fun h => absurd h (by omega)) (fun _ => ?_)
    refine z_iload K 1 dX1_admitted_34 rfl ?_
    refine z_iload K 0 dX1_admitted_36 rfl ?_
    refine z_callSN (st' := [.int (z_b (hs (x &&& ((la v) ^^^ (-1))) (nI k)))]) (rest := []) K (m_X2_has l _ D cI cZ cQ cW (x &&& ((la v) ^^^ (-1))) (nI k) ) gX1_admitted_X2_has_n43 rfl 2 (host := "FableIndex") (by decide) (by decide +kernel) (by decide +kernel) (by decide +kernel) dX1_admitted_38 rfl rfl ⟨by decide, by decide⟩ ⟨by decide, by decide⟩ rfl rfl (Nat.le_of_ble_eq_true rfl) rfl ?_
    refine z_if_eqB K 85 dX1_admitted_41 (by decide) (fun c41 => ?_) (fun c41 => ?_)
    · refine z_iinc (lv' := [(6, .int (nI (k + 1))), (5, .int (x &&& ((la v) ^^^ (-1)))), (4, .int (admS lm la fm fv v x k)), (0, .ref aL), (1, .ref aB), (2, .int (nI v)), (3, .int x)]) (v := nI (k + 1)) K 0 dX1_admitted_85 rfl (z_inc1 k) (by decide) rfl ?_
      refine z_goto K 25 dX1_admitted_88 (by decide) ?_
      rw [show (admS lm la fm fv v x (k + 1)) = (admS lm la fm fv v x k) from (by first | (simp only [admS, z_fold, c41, Bool.false_eq_true, if_false, if_true, ↓reduceIte]; done) | rfl | simp [admS, z_fold, c41])] at ihk
      exact ihk
    · refine z_aload_n K 3 dX1_admitted_44 rfl ?_
      refine z_get (C := RX1) (T := TX1) (N := 7) (ci := 1) K iX1 rfl 0 rfl 1 (by decide) (by decide +kernel) rfl rfl dX1_admitted_45 ?_
      refine z_iload_n K 5 dX1_admitted_48 rfl ?_
      refine z_ialdN K 1 0 v (by omega) (by omega) rfl rfl dX1_admitted_49 ?_
      refine z_aload_n K 4 dX1_admitted_50 rfl ?_
      refine z_get (C := RX0) (T := TX0) (N := 7) (ci := 0) K iX0 rfl 3 rfl 1 (by decide) (by decide +kernel) rfl rfl dX1_admitted_51 ?_
      refine z_iload K 0 dX1_admitted_54 rfl ?_
      refine z_ialdN K 4 0 k (by omega) (by omega) rfl rfl dX1_admitted_56 ?_
      refine z_callSN (st' := [.int (z_b (hs (lm v) (fm k)))]) (rest := []) K (m_X2_has l _ D cI cZ cQ cW (lm v) (fm k) ) gX1_admitted_X2_has_n43 rfl 2 (host := "FableIndex") (by decide) (by decide +kernel) (by decide +kernel) (by decide +kernel) dX1_admitted_57 rfl rfl ⟨by decide, by decide⟩ ⟨by decide, by decide⟩ rfl rfl (Nat.le_of_ble_eq_true rfl) rfl ?_
      refine z_if_neB K 85 dX1_admitted_60 (by decide) (fun c60 => ?_) (fun c60 => ?_)
      · refine z_iinc (lv' := [(6, .int (nI (k + 1))), (5, .int (x &&& ((la v) ^^^ (-1)))), (4, .int (admS lm la fm fv v x k)), (0, .ref aL), (1, .ref aB), (2, .int (nI v)), (3, .int x)]) (v := nI (k + 1)) K 0 dX1_admitted_85 rfl (z_inc1 k) (by decide) rfl ?_
        refine z_goto K 25 dX1_admitted_88 (by decide) ?_
        rw [show (admS lm la fm fv v x (k + 1)) = (admS lm la fm fv v x k) from (by first | (simp only [admS, z_fold, c41, c60, Bool.false_eq_true, if_false, if_true, ↓reduceIte]; done) | rfl | simp [admS, z_fold, c41, c60])] at ihk
        exact ihk
      · refine z_iload K 2 dX1_admitted_63 rfl ?_
        refine z_aload_n K 4 dX1_admitted_65 rfl ?_
        refine z_get (C := RX0) (T := TX0) (N := 7) (ci := 0) K iX0 rfl 3 rfl 5 (by decide) (by decide +kernel) rfl rfl dX1_admitted_66 ?_
        refine z_iload K 0 dX1_admitted_69 rfl ?_
        refine z_ialdN K 5 0 k (by omega) (by omega) rfl rfl dX1_admitted_71 ?_
        refine z_aload_n K 3 dX1_admitted_72 rfl ?_
        refine z_get (C := RX1) (T := TX1) (N := 7) (ci := 1) K iX1 rfl 0 rfl 4 (by decide) (by decide +kernel) rfl rfl dX1_admitted_73 ?_
        refine z_iload_n K 5 dX1_admitted_76 rfl ?_
        refine z_ialdN K 2 0 v (by omega) (by omega) rfl rfl dX1_admitted_77 ?_
        refine z_iand K dX1_admitted_78 ?_
        refine z_callSN (st' := [.int (sal ((fv k) &&& (la v))), .int (admS lm la fm fv v x k)]) (rest := [.int (admS lm la fm fv v x k)]) K (m_X2_smallestAlone l _ D cI cZ cQ cW ((fv k) &&& (la v)) ) gX1_admitted_X2_smallestAlone_n82 rfl 1 (host := "FableIndex") (by decide) (by decide +kernel) (by decide +kernel) (by decide +kernel) dX1_admitted_79 rfl rfl ⟨by decide, by decide⟩ ⟨by decide, by decide⟩ rfl rfl (Nat.le_of_ble_eq_true rfl) rfl ?_
        refine z_ior K dX1_admitted_82 ?_
        refine z_istore (lv' := [(4, .int (admS lm la fm fv v x k ||| (sal ((fv k) &&& (la v))))), (6, .int (nI k)), (5, .int (x &&& ((la v) ^^^ (-1)))), (0, .ref aL), (1, .ref aB), (2, .int (nI v)), (3, .int x)]) K dX1_admitted_83 (by decide) rfl ?_
        refine z_iinc (lv' := [(6, .int (nI (k + 1))), (4, .int (admS lm la fm fv v x k ||| (sal ((fv k) &&& (la v))))), (5, .int (x &&& ((la v) ^^^ (-1)))), (0, .ref aL), (1, .ref aB), (2, .int (nI v)), (3, .int x)]) (v := nI (k + 1)) K 1 dX1_admitted_85 rfl (z_inc1 k) (by decide) rfl ?_
        refine z_goto K 25 dX1_admitted_88 (by decide) ?_
        refine z_lv (lv' := [(6, .int (nI (k + 1))), (5, .int (x &&& ((la v) ^^^ (-1)))), (4, .int (admS lm la fm fv v x k ||| (sal ((fv k) &&& (la v))))), (0, .ref aL), (1, .ref aB), (2, .int (nI v)), (3, .int x)]) [0, 2, 1, 3, 4, 5, 6] rfl ?_
        rw [show (admS lm la fm fv v x (k + 1)) = (admS lm la fm fv v x k ||| (sal ((fv k) &&& (la v)))) from (by first | (simp only [admS, z_fold, c41, c60, Bool.false_eq_true, if_false, if_true, ↓reduceIte]; done) | rfl | simp [admS, z_fold, c41, c60])] at ihk
        exact ihk

set_option maxRecDepth 100000 in
set_option maxHeartbeats 4000000 in
theorem m_X1_hush (l : Launch) (G : Nat → Prop) (D : va_G) (cI cZ cQ cW : ClassId) (aL : Nat) (aL0 : Nat) (aL1 : Nat) (aL2 : Nat) (aL3 : Nat) (aL4 : Nat) (aL5 : Nat) (hu : Int32) (lt : Nat → Int32) (la : Nat → Int32) (lk : Nat → Int32)  : z_M l yX1_hush wsX1_hush { frames := 2, cells := 0, slots := 0, locals := 40 } G D [(cI, .int), (cZ, .boolean), (cQ, .array .int), (cW, .array .boolean)] [.ref aL] ([(aL, .inr (1, [.ref aL0, .ref aL1, .ref aL2, .ref aL3, .ref aL4, .ref aL5, .int hu])), (aL3, .inl (cI, 6, .inl lt)), (aL4, .inl (cI, 6, .inl la)), (aL5, .inl (cI, 6, .inl lk))]) none [(aL, .inr (1, [.ref aL0, .ref aL1, .ref aL2, .ref aL3, .ref aL4, .ref aL5, .int (hushH la lt hu 6)])), (aL5, .inl (cI, 6, .inl (hushK la lt lk 6)))] 0 0 := by
  have iX1 : ∀ w ∈ u_ws RX1 TX1 7, w ∈ wsX1_hush := fun w h => List.mem_cons_of_mem _ (List.mem_append_right _ h)
  refine z_ofW (cc := cX1_hush) (nL := 2) (ret := none) (by decide) rfl (Nat.le_of_ble_eq_true rfl) [0, 3] rfl (lv0 := [(0, .ref aL)]) rfl ?_
  intro p e s m args below meth c K
  refine z_iconst (v := 0) K dX1_hush_0 (by decide) ?_
  refine z_istore_n (lv' := [(1, .int 0), (0, .ref aL)]) K dX1_hush_1 (by decide) rfl ?_
  refine z_loop (wsf := fun k => [(aL, .inr (1, [.ref aL0, .ref aL1, .ref aL2, .ref aL3, .ref aL4, .ref aL5, .int (hushH la lt hu k)])), (aL3, .inl (cI, 6, .inl lt)), (aL4, .inl (cI, 6, .inl la)), (aL5, .inl (cI, 6, .inl (hushK la lt lk k)))]) (lvf := fun k => [(1, .int (nI k)), (0, .ref aL)]) 6 rfl rfl ?_ (fun k hk ihk => ?_)
  · refine z_iload_n K 0 dX1_hush_2 rfl ?_
    refine z_bipush (v := 6) K dX1_hush_3 (by decide) ?_
    refine z_cmpN K 60 6 6 dX1_hush_5 (by decide) rfl rfl (by omega) (by omega) (fun _ => ?_) (fun h => absurd h (by omega))
    exact z_vret K dX1_hush_60 [0, 3] rfl (by decide) (by decide)
  · refine z_iload_n K 0 dX1_hush_2 rfl ?_
    refine z_bipush (v := 6) K dX1_hush_3 (by decide) ?_
    refine z_cmpN K 60 k 6 dX1_hush_5 (by decide) rfl rfl (by omega) (by omega) (fun h => absurd h (by omega)) (fun _ => ?_)
    refine z_aload_n K 1 dX1_hush_8 rfl ?_
    refine z_get (C := RX1) (T := TX1) (N := 7) (ci := 1) K iX1 rfl 0 rfl 5 (by decide) (by decide +kernel) rfl rfl dX1_hush_9 ?_
    refine z_iload_n K 0 dX1_hush_12 rfl ?_
    refine z_aload_n K 1 dX1_hush_13 rfl ?_
    refine z_get (C := RX1) (T := TX1) (N := 7) (ci := 1) K iX1 rfl 0 rfl 3 (by decide) (by decide +kernel) rfl rfl dX1_hush_14 ?_
    refine z_iload_n K 0 dX1_hush_17 rfl ?_
    refine z_ialdN K 1 0 k (by omega) (by omega) rfl rfl dX1_hush_18 ?_
    refine z_aload_n K 1 dX1_hush_19 rfl ?_
    refine z_get (C := RX1) (T := TX1) (N := 7) (ci := 1) K iX1 rfl 0 rfl 4 (by decide) (by decide +kernel) rfl rfl dX1_hush_20 ?_
    refine z_iload_n K 0 dX1_hush_23 rfl ?_
    refine z_ialdN K 2 0 k (by omega) (by omega) rfl rfl dX1_hush_24 ?_
    refine z_iand K dX1_hush_25 ?_
    refine z_iastN K 3 0 k (by omega) (by omega) rfl rfl dX1_hush_26 (z_memA 1 rfl) (ws' := [(aL, .inr (1, [.ref aL0, .ref aL1, .ref aL2, .ref aL3, .ref aL4, .ref aL5, .int (hushH la lt hu k)])), (aL3, .inl (cI, 6, .inl lt)), (aL4, .inl (cI, 6, .inl la)), (aL5, .inl (cI, 6, .inl (upd (hushK la lt lk k) k ((lt k) &&& (la k)))))]) rfl ?_
    refine z_aload_n K 1 dX1_hush_27 rfl ?_
    refine z_dup K dX1_hush_28 rfl ?_
    refine z_get (C := RX1) (T := TX1) (N := 7) (ci := 1) K iX1 rfl 0 rfl 6 (by decide) (by decide +kernel) rfl rfl dX1_hush_29 ?_
    refine z_aload_n K 1 dX1_hush_32 rfl ?_
    refine z_get (C := RX1) (T := TX1) (N := 7) (ci := 1) K iX1 rfl 0 rfl 3 (by decide) (by decide +kernel) rfl rfl dX1_hush_33 ?_
    refine z_iload_n K 0 dX1_hush_36 rfl ?_
    refine z_ialdN K 1 0 k (by omega) (by omega) rfl rfl dX1_hush_37 ?_
    refine z_aload_n K 1 dX1_hush_38 rfl ?_
    refine z_get (C := RX1) (T := TX1) (N := 7) (ci := 1) K iX1 rfl 0 rfl 4 (by decide) (by decide +kernel) rfl rfl dX1_hush_39 ?_
    refine z_iload_n K 0 dX1_hush_42 rfl ?_
    refine z_ialdN K 2 0 k (by omega) (by omega) rfl rfl dX1_hush_43 ?_
    refine z_iconst (v := (-1)) K dX1_hush_44 (by decide) ?_
    refine z_ixor K dX1_hush_45 ?_
    refine z_iand K dX1_hush_46 ?_
    refine z_callSN (st' := [.int (pc ((lt k) &&& ((la k) ^^^ (-1)))), .int (hushH la lt hu k), .ref aL]) (rest := [.int (hushH la lt hu k), .ref aL]) K (m_X2_size l _ D cI cZ cQ cW ((lt k) &&& ((la k) ^^^ (-1))) ) gX1_hush_X2_size_n57 rfl 1 (host := "FableIndex") (by decide) (by decide +kernel) (by decide +kernel) (by decide +kernel) dX1_hush_47 rfl rfl ⟨by decide, by decide⟩ ⟨by decide, by decide⟩ rfl rfl (Nat.le_of_ble_eq_true rfl) rfl ?_
    refine z_iadd K dX1_hush_50 ?_
    refine z_put (C := RX1) (T := TX1) (N := 7) (ci := 1) K iX1 rfl tyX1 tyX1_ok nmX1 0 rfl 6 (by decide) (by decide +kernel) rfl rfl rfl rfl (Nat.le_of_ble_eq_true rfl) (z_memA 0 rfl) (ws' := [(aL, .inr (1, [.ref aL0, .ref aL1, .ref aL2, .ref aL3, .ref aL4, .ref aL5, .int ((hushH la lt hu k) + (pc ((lt k) &&& ((la k) ^^^ (-1)))))])), (aL3, .inl (cI, 6, .inl lt)), (aL4, .inl (cI, 6, .inl la)), (aL5, .inl (cI, 6, .inl (upd (hushK la lt lk k) k ((lt k) &&& (la k)))))]) rfl dX1_hush_51 ?_
    refine z_iinc (lv' := [(1, .int (nI (k + 1))), (0, .ref aL)]) (v := nI (k + 1)) K 0 dX1_hush_54 rfl (z_inc1 k) (by decide) rfl ?_
    refine z_goto K 2 dX1_hush_57 (by decide) ?_
    rw [show (hushH la lt hu (k + 1)) = ((hushH la lt hu k) + (pc ((lt k) &&& ((la k) ^^^ (-1))))) from (by first | (simp only [hushK, hushH, z_fold, Bool.false_eq_true, if_false, if_true, ↓reduceIte]; done) | rfl | simp [hushK, hushH, z_fold])] at ihk
    rw [show (hushK la lt lk (k + 1)) = (upd (hushK la lt lk k) k ((lt k) &&& (la k))) from (by first | (simp only [hushK, hushH, z_fold, Bool.false_eq_true, if_false, if_true, ↓reduceIte]; done) | rfl | simp [hushK, hushH, z_fold])] at ihk
    exact ihk

set_option maxRecDepth 100000 in
set_option maxHeartbeats 4000000 in
theorem m_X1_spread (l : Launch) (G : Nat → Prop) (D : va_G) (cI cZ cQ cW : ClassId) (aL : Nat) (aB : Nat) (aL0 : Nat) (aL1 : Nat) (aL2 : Nat) (aL3 : Nat) (aL4 : Nat) (aL5 : Nat) (hu : Int32) (lw : Nat → Int32) (lm : Nat → Int32) (lt : Nat → Int32) (la : Nat → Int32) (lk : Nat → Int32) (n : Nat) (aB0 : Nat) (aB1 : Nat) (aB2 : Nat) (aB3 : Nat) (aB4 : Nat) (aB5 : Nat) (fm : Nat → Int32) (fv : Nat → Int32) (hn : n ≤ 20) : z_M l yX1_spread wsX1_spread { frames := 2, cells := 0, slots := 0, locals := 47 } G D [(cI, .int), (cZ, .boolean), (cQ, .array .int), (cW, .array .boolean)] [.ref aL, .ref aB] ([(aL, .inr (1, [.ref aL0, .ref aL1, .ref aL2, .ref aL3, .ref aL4, .ref aL5, .int hu])), (aL0, .inl (cI, 6, .inl lw)), (aL1, .inl (cI, 6, .inl lm)), (aL3, .inl (cI, 6, .inl lt)), (aL4, .inl (cI, 6, .inl la)), (aL5, .inl (cI, 6, .inl lk)), (aB, .inr (0, [.int (nI n), .ref aB0, .ref aB1, .ref aB2, .ref aB3, .ref aB4, .ref aB5])), (aB0, .inl (cI, 20, .inl fm)), (aB4, .inl (cI, 20, .inl fv))]) (some (.int (z_b (sprC lw lm la lk fm fv n lt 6)))) [(aL3, .inl (cI, 6, .inl (sprT lw lm la lk fm fv n lt 6)))] 0 0 := by
  have iX1 : ∀ w ∈ u_ws RX1 TX1 7, w ∈ wsX1_spread := fun w h => List.mem_cons_of_mem _ (List.mem_append_left _ (List.mem_append_right _ h))
  have iX0 : ∀ w ∈ u_ws RX0 TX0 7, w ∈ wsX1_spread := fun w h => List.mem_cons_of_mem _ (List.mem_append_right _ h)
  refine z_ofW (cc := cX1_spread) (nL := 5) (ret := (some .boolean)) (by decide) rfl (Nat.le_of_ble_eq_true rfl) [3] rfl (lv0 := [(0, .ref aL), (1, .ref aB)]) rfl ?_
  intro p e s m args below meth c K
  refine z_iconst (v := 0) K dX1_spread_0 (by decide) ?_
  refine z_istore_n (lv' := [(2, .int 0), (0, .ref aL), (1, .ref aB)]) K dX1_spread_1 (by decide) rfl ?_
  refine z_iconst (v := 0) K dX1_spread_2 (by decide) ?_
  refine z_istore_n (lv' := [(3, .int 0), (2, .int 0), (0, .ref aL), (1, .ref aB)]) K dX1_spread_3 (by decide) rfl ?_
  refine z_loop (wsf := fun k => [(aL, .inr (1, [.ref aL0, .ref aL1, .ref aL2, .ref aL3, .ref aL4, .ref aL5, .int hu])), (aL0, .inl (cI, 6, .inl lw)), (aL1, .inl (cI, 6, .inl lm)), (aL3, .inl (cI, 6, .inl (sprT lw lm la lk fm fv n lt k))), (aL4, .inl (cI, 6, .inl la)), (aL5, .inl (cI, 6, .inl lk)), (aB, .inr (0, [.int (nI n), .ref aB0, .ref aB1, .ref aB2, .ref aB3, .ref aB4, .ref aB5])), (aB0, .inl (cI, 20, .inl fm)), (aB4, .inl (cI, 20, .inl fv))]) (lvf := fun k => [(3, .int (nI k)), (2, .int (z_b (sprC lw lm la lk fm fv n lt k))), (0, .ref aL), (1, .ref aB)]) 6 rfl rfl ?_ (fun k hk ihk => ?_)
  · refine z_iload_n K 0 dX1_spread_4 rfl ?_
    refine z_bipush (v := 6) K dX1_spread_5 (by decide) ?_
    refine z_cmpN K 65 6 6 dX1_spread_7 (by decide) rfl rfl (by omega) (by omega) (fun _ => ?_) (fun h => absurd h (by omega))
    refine z_iload_n K 1 dX1_spread_65 rfl ?_
    exact z_zret K dX1_spread_66 (rfl) [3] rfl (by decide) (by decide)
  · refine z_iload_n K 0 dX1_spread_4 rfl ?_
    refine z_bipush (v := 6) K dX1_spread_5 (by decide) ?_
    refine z_cmpN K 65 k 6 dX1_spread_7 (by decide) rfl rfl (by omega) (by omega) (fun h => absurd h (by omega)) (fun _ => ?_)
    refine z_aload_n K 2 dX1_spread_10 rfl ?_
    refine z_get (C := RX1) (T := TX1) (N := 7) (ci := 1) K iX1 rfl 0 rfl 5 (by decide) (by decide +kernel) rfl rfl dX1_spread_11 ?_
    refine z_iload_n K 0 dX1_spread_14 rfl ?_
    refine z_ialdN K 5 0 k (by omega) (by omega) rfl rfl dX1_spread_15 ?_
    refine z_aload_n K 2 dX1_spread_16 rfl ?_
    refine z_aload_n K 3 dX1_spread_17 rfl ?_
    refine z_iload_n K 0 dX1_spread_18 rfl ?_
    refine z_aload_n K 2 dX1_spread_19 rfl ?_
    refine z_iload_n K 0 dX1_spread_20 rfl ?_
    refine z_callV (ws' := [(aL, .inr (1, [.ref aL0, .ref aL1, .ref aL2, .ref aL3, .ref aL4, .ref aL5, .int hu])), (aL0, .inl (cI, 6, .inl lw)), (aL1, .inl (cI, 6, .inl lm)), (aL3, .inl (cI, 6, .inl (sprT lw lm la lk fm fv n lt k))), (aL4, .inl (cI, 6, .inl la)), (aL5, .inl (cI, 6, .inl lk)), (aB, .inr (0, [.int (nI n), .ref aB0, .ref aB1, .ref aB2, .ref aB3, .ref aB4, .ref aB5])), (aB0, .inl (cI, 20, .inl fm)), (aB4, .inl (cI, 20, .inl fv))]) (st' := [.int (arrS lw lk k 6), .int (nI k), .ref aB, .ref aL, .int (lk k)]) (rest := [.int (nI k), .ref aB, .ref aL, .int (lk k)]) (C := RX1) (T := TX1) (N := 7) K (m_X1_arriving l _ D cI cZ cQ cW aL k aL0 aL1 aL2 aL3 aL4 aL5 hu lw lk (by omega)) gX1_spread_X1_arriving rfl 1 1 (by decide +kernel) rfl dX1_spread_21 [0, 1, 5] 0 [] [] rfl rfl rfl ⟨by decide, by decide⟩ ⟨by decide, by decide⟩ rfl rfl rfl rfl rfl (Nat.le_of_ble_eq_true rfl) rfl rfl rfl rfl ?_
    refine z_callV (ws' := [(aL, .inr (1, [.ref aL0, .ref aL1, .ref aL2, .ref aL3, .ref aL4, .ref aL5, .int hu])), (aL0, .inl (cI, 6, .inl lw)), (aL1, .inl (cI, 6, .inl lm)), (aL3, .inl (cI, 6, .inl (sprT lw lm la lk fm fv n lt k))), (aL4, .inl (cI, 6, .inl la)), (aL5, .inl (cI, 6, .inl lk)), (aB, .inr (0, [.int (nI n), .ref aB0, .ref aB1, .ref aB2, .ref aB3, .ref aB4, .ref aB5])), (aB0, .inl (cI, 20, .inl fm)), (aB4, .inl (cI, 20, .inl fv))]) (st' := [.int (admS lm la fm fv k (arrS lw lk k 6) n), .int (lk k)]) (rest := [.int (lk k)]) (C := RX1) (T := TX1) (N := 7) K (m_X1_admitted l _ D cI cZ cQ cW aL aB k (arrS lw lk k 6) aL0 aL1 aL2 aL3 aL4 aL5 hu lm la n aB0 aB1 aB2 aB3 aB4 aB5 fm fv (by omega) (by omega)) gX1_spread_X1_admitted rfl 3 1 (by decide +kernel) rfl dX1_spread_24 [0, 2, 4, 6, 7, 8] 0 [] [] rfl rfl rfl ⟨by decide, by decide⟩ ⟨by decide, by decide⟩ rfl rfl rfl rfl rfl (Nat.le_of_ble_eq_true rfl) rfl rfl rfl rfl ?_
    refine z_ior K dX1_spread_27 ?_
    refine z_istore (lv' := [(4, .int ((lk k) ||| (admS lm la fm fv k (arrS lw lk k 6) n))), (3, .int (nI k)), (2, .int (z_b (sprC lw lm la lk fm fv n lt k))), (0, .ref aL), (1, .ref aB)]) K dX1_spread_28 (by decide) rfl ?_
    refine z_iload_n K 2 dX1_spread_30 rfl ?_
    refine z_if_neB K 45 dX1_spread_31 (by decide) (fun c31 => ?_) (fun c31 => ?_)
    · refine z_iconst (v := 1) K dX1_spread_45 (by decide) ?_
      refine z_goto K 50 dX1_spread_46 (by decide) ?_
      refine z_istore_n (lv' := [(2, .int 1), (4, .int ((lk k) ||| (admS lm la fm fv k (arrS lw lk k 6) n))), (3, .int (nI k)), (0, .ref aL), (1, .ref aB)]) K dX1_spread_50 (by decide) rfl ?_
      refine z_aload_n K 3 dX1_spread_51 rfl ?_
      refine z_get (C := RX1) (T := TX1) (N := 7) (ci := 1) K iX1 rfl 0 rfl 3 (by decide) (by decide +kernel) rfl rfl dX1_spread_52 ?_
      refine z_iload_n K 2 dX1_spread_55 rfl ?_
      refine z_iload K 1 dX1_spread_56 rfl ?_
      refine z_iastN K 3 0 k (by omega) (by omega) rfl rfl dX1_spread_58 (z_memA 0 rfl) (ws' := [(aL, .inr (1, [.ref aL0, .ref aL1, .ref aL2, .ref aL3, .ref aL4, .ref aL5, .int hu])), (aL0, .inl (cI, 6, .inl lw)), (aL1, .inl (cI, 6, .inl lm)), (aL3, .inl (cI, 6, .inl (upd (sprT lw lm la lk fm fv n lt k) k ((lk k) ||| (admS lm la fm fv k (arrS lw lk k 6) n))))), (aL4, .inl (cI, 6, .inl la)), (aL5, .inl (cI, 6, .inl lk)), (aB, .inr (0, [.int (nI n), .ref aB0, .ref aB1, .ref aB2, .ref aB3, .ref aB4, .ref aB5])), (aB0, .inl (cI, 20, .inl fm)), (aB4, .inl (cI, 20, .inl fv))]) rfl ?_
      refine z_iinc (lv' := [(3, .int (nI (k + 1))), (2, .int 1), (4, .int ((lk k) ||| (admS lm la fm fv k (arrS lw lk k 6) n))), (0, .ref aL), (1, .ref aB)]) (v := nI (k + 1)) K 2 dX1_spread_59 rfl (z_inc1 k) (by decide) rfl ?_
      refine z_goto K 4 dX1_spread_62 (by decide) ?_
      refine z_lv (lv' := [(3, .int (nI (k + 1))), (2, .int 1), (0, .ref aL), (1, .ref aB)]) [0, 1, 3, 4] rfl ?_
      rw [show (z_b (sprC lw lm la lk fm fv n lt (k + 1))) = 1 from (by first | (simp only [sprC_succ, thenS, z_b, c31, Bool.false_eq_true, if_false, if_true, ↓reduceIte]; done) | rfl | simp [sprC_succ, thenS, z_b, c31])] at ihk
      rw [show (sprT lw lm la lk fm fv n lt (k + 1)) = (upd (sprT lw lm la lk fm fv n lt k) k ((lk k) ||| (admS lm la fm fv k (arrS lw lk k 6) n))) from (by first | (simp only [sprC_succ, thenS, z_b, c31, Bool.false_eq_true, if_false, if_true, ↓reduceIte]; done) | rfl | simp [sprC_succ, thenS, z_b, c31])] at ihk
      exact ihk
    · refine z_iload K 0 dX1_spread_34 rfl ?_
      refine z_aload_n K 3 dX1_spread_36 rfl ?_
      refine z_get (C := RX1) (T := TX1) (N := 7) (ci := 1) K iX1 rfl 0 rfl 3 (by decide) (by decide +kernel) rfl rfl dX1_spread_37 ?_
      refine z_iload_n K 1 dX1_spread_40 rfl ?_
      refine z_ialdN K 3 0 k (by omega) (by omega) rfl rfl dX1_spread_41 ?_
      refine z_icmp_eq K 49 dX1_spread_42 (by decide) (fun c42 => ?_) (fun c42 => ?_)
      · refine z_iconst (v := 0) K dX1_spread_49 (by decide) ?_
        refine z_istore_n (lv' := [(2, .int 0), (4, .int ((lk k) ||| (admS lm la fm fv k (arrS lw lk k 6) n))), (3, .int (nI k)), (0, .ref aL), (1, .ref aB)]) K dX1_spread_50 (by decide) rfl ?_
        refine z_aload_n K 3 dX1_spread_51 rfl ?_
        refine z_get (C := RX1) (T := TX1) (N := 7) (ci := 1) K iX1 rfl 0 rfl 3 (by decide) (by decide +kernel) rfl rfl dX1_spread_52 ?_
        refine z_iload_n K 2 dX1_spread_55 rfl ?_
        refine z_iload K 1 dX1_spread_56 rfl ?_
        refine z_iastN K 3 0 k (by omega) (by omega) rfl rfl dX1_spread_58 (z_memA 0 rfl) (ws' := [(aL, .inr (1, [.ref aL0, .ref aL1, .ref aL2, .ref aL3, .ref aL4, .ref aL5, .int hu])), (aL0, .inl (cI, 6, .inl lw)), (aL1, .inl (cI, 6, .inl lm)), (aL3, .inl (cI, 6, .inl (upd (sprT lw lm la lk fm fv n lt k) k ((lk k) ||| (admS lm la fm fv k (arrS lw lk k 6) n))))), (aL4, .inl (cI, 6, .inl la)), (aL5, .inl (cI, 6, .inl lk)), (aB, .inr (0, [.int (nI n), .ref aB0, .ref aB1, .ref aB2, .ref aB3, .ref aB4, .ref aB5])), (aB0, .inl (cI, 20, .inl fm)), (aB4, .inl (cI, 20, .inl fv))]) rfl ?_
        refine z_iinc (lv' := [(3, .int (nI (k + 1))), (2, .int 0), (4, .int ((lk k) ||| (admS lm la fm fv k (arrS lw lk k 6) n))), (0, .ref aL), (1, .ref aB)]) (v := nI (k + 1)) K 2 dX1_spread_59 rfl (z_inc1 k) (by decide) rfl ?_
        refine z_goto K 4 dX1_spread_62 (by decide) ?_
        refine z_lv (lv' := [(3, .int (nI (k + 1))), (2, .int 0), (0, .ref aL), (1, .ref aB)]) [0, 1, 3, 4] rfl ?_
        rw [show (z_b (sprC lw lm la lk fm fv n lt (k + 1))) = 0 from (by first | (simp only [sprC_succ, thenS, z_b, c31, c42, Bool.false_eq_true, if_false, if_true, ↓reduceIte]; done) | rfl | simp [sprC_succ, thenS, z_b, c31, c42])] at ihk
        rw [show (sprT lw lm la lk fm fv n lt (k + 1)) = (upd (sprT lw lm la lk fm fv n lt k) k ((lk k) ||| (admS lm la fm fv k (arrS lw lk k 6) n))) from (by first | (simp only [sprC_succ, thenS, z_b, c31, c42, Bool.false_eq_true, if_false, if_true, ↓reduceIte]; done) | rfl | simp [sprC_succ, thenS, z_b, c31, c42])] at ihk
        exact ihk
      · refine z_iconst (v := 1) K dX1_spread_45 (by decide) ?_
        refine z_goto K 50 dX1_spread_46 (by decide) ?_
        refine z_istore_n (lv' := [(2, .int 1), (4, .int ((lk k) ||| (admS lm la fm fv k (arrS lw lk k 6) n))), (3, .int (nI k)), (0, .ref aL), (1, .ref aB)]) K dX1_spread_50 (by decide) rfl ?_
        refine z_aload_n K 3 dX1_spread_51 rfl ?_
        refine z_get (C := RX1) (T := TX1) (N := 7) (ci := 1) K iX1 rfl 0 rfl 3 (by decide) (by decide +kernel) rfl rfl dX1_spread_52 ?_
        refine z_iload_n K 2 dX1_spread_55 rfl ?_
        refine z_iload K 1 dX1_spread_56 rfl ?_
        refine z_iastN K 3 0 k (by omega) (by omega) rfl rfl dX1_spread_58 (z_memA 0 rfl) (ws' := [(aL, .inr (1, [.ref aL0, .ref aL1, .ref aL2, .ref aL3, .ref aL4, .ref aL5, .int hu])), (aL0, .inl (cI, 6, .inl lw)), (aL1, .inl (cI, 6, .inl lm)), (aL3, .inl (cI, 6, .inl (upd (sprT lw lm la lk fm fv n lt k) k ((lk k) ||| (admS lm la fm fv k (arrS lw lk k 6) n))))), (aL4, .inl (cI, 6, .inl la)), (aL5, .inl (cI, 6, .inl lk)), (aB, .inr (0, [.int (nI n), .ref aB0, .ref aB1, .ref aB2, .ref aB3, .ref aB4, .ref aB5])), (aB0, .inl (cI, 20, .inl fm)), (aB4, .inl (cI, 20, .inl fv))]) rfl ?_
        refine z_iinc (lv' := [(3, .int (nI (k + 1))), (2, .int 1), (4, .int ((lk k) ||| (admS lm la fm fv k (arrS lw lk k 6) n))), (0, .ref aL), (1, .ref aB)]) (v := nI (k + 1)) K 2 dX1_spread_59 rfl (z_inc1 k) (by decide) rfl ?_
        refine z_goto K 4 dX1_spread_62 (by decide) ?_
        refine z_lv (lv' := [(3, .int (nI (k + 1))), (2, .int 1), (0, .ref aL), (1, .ref aB)]) [0, 1, 3, 4] rfl ?_
        rw [show (z_b (sprC lw lm la lk fm fv n lt (k + 1))) = 1 from (by first | (simp only [sprC_succ, thenS, z_b, c31, c42, Bool.false_eq_true, if_false, if_true, ↓reduceIte]; done) | rfl | simp [sprC_succ, thenS, z_b, c31, c42])] at ihk
        rw [show (sprT lw lm la lk fm fv n lt (k + 1)) = (upd (sprT lw lm la lk fm fv n lt k) k ((lk k) ||| (admS lm la fm fv k (arrS lw lk k 6) n))) from (by first | (simp only [sprC_succ, thenS, z_b, c31, c42, Bool.false_eq_true, if_false, if_true, ↓reduceIte]; done) | rfl | simp [sprC_succ, thenS, z_b, c31, c42])] at ihk
        exact ihk

set_option maxRecDepth 100000 in
set_option maxHeartbeats 4000000 in
theorem m_X1_live (l : Launch) (G : Nat → Prop) (D : va_G) (cI cZ cQ cW : ClassId) (aL : Nat) (aB : Nat) (q : Nat) (aL0 : Nat) (aL1 : Nat) (aL2 : Nat) (aL3 : Nat) (aL4 : Nat) (aL5 : Nat) (hu : Int32) (lw : Nat → Int32) (lm : Nat → Int32) (lb : Nat → Int32) (lt : Nat → Int32) (la : Nat → Int32) (lk : Nat → Int32) (n : Nat) (aB0 : Nat) (aB1 : Nat) (aB2 : Nat) (aB3 : Nat) (aB4 : Nat) (aB5 : Nat) (fm : Nat → Int32) (fb : Nat → Int32) (fv : Nat → Int32) (hn : n ≤ 20) (hq : q ≤ 40) : z_M l yX1_live wsX1_live { frames := 3, cells := 0, slots := 0, locals := 71 } G D [(cI, .int), (cZ, .boolean), (cQ, .array .int), (cW, .array .boolean)] [.ref aL, .ref aB, .int (nI q)] ([(aL, .inr (1, [.ref aL0, .ref aL1, .ref aL2, .ref aL3, .ref aL4, .ref aL5, .int hu])), (aL0, .inl (cI, 6, .inl lw)), (aL1, .inl (cI, 6, .inl lm)), (aL2, .inl (cI, 6, .inl lb)), (aL3, .inl (cI, 6, .inl lt)), (aL4, .inl (cI, 6, .inl la)), (aL5, .inl (cI, 6, .inl lk)), (aB, .inr (0, [.int (nI n), .ref aB0, .ref aB1, .ref aB2, .ref aB3, .ref aB4, .ref aB5])), (aB0, .inl (cI, 20, .inl fm)), (aB1, .inl (cI, 20, .inl fb)), (aB4, .inl (cI, 20, .inl fv))]) none [(aL, .inr (1, [.ref aL0, .ref aL1, .ref aL2, .ref aL3, .ref aL4, .ref aL5, .int ((livS lw lm (alS lm lb fm fb n la 6) fm fv n lt lk hu q).2.2.1)])), (aL3, .inl (cI, 6, .inl ((livS lw lm (alS lm lb fm fb n la 6) fm fv n lt lk hu q).1))), (aL4, .inl (cI, 6, .inl (alS lm lb fm fb n la 6))), (aL5, .inl (cI, 6, .inl ((livS lw lm (alS lm lb fm fb n la 6) fm fv n lt lk hu q).2.1)))] 0 0 := by
  have iX1 : ∀ w ∈ u_ws RX1 TX1 7, w ∈ wsX1_live := fun w h => List.mem_cons_of_mem _ (List.mem_append_left _ (List.mem_append_right _ h))
  have iX0 : ∀ w ∈ u_ws RX0 TX0 7, w ∈ wsX1_live := fun w h => List.mem_cons_of_mem _ (List.mem_append_right _ h)
  refine z_ofW (cc := cX1_live) (nL := 5) (ret := none) (by decide) rfl (Nat.le_of_ble_eq_true rfl) [0, 4, 5, 6] rfl (lv0 := [(0, .ref aL), (1, .ref aB), (2, .int (nI q))]) rfl ?_
  intro p e s m args below meth c K
  refine z_iconst (v := 0) K dX1_live_0 (by decide) ?_
  refine z_istore_n (lv' := [(3, .int 0), (0, .ref aL), (1, .ref aB), (2, .int (nI q))]) K dX1_live_1 (by decide) rfl ?_
  refine z_loop (wsf := fun k => [(aL, .inr (1, [.ref aL0, .ref aL1, .ref aL2, .ref aL3, .ref aL4, .ref aL5, .int hu])), (aL0, .inl (cI, 6, .inl lw)), (aL1, .inl (cI, 6, .inl lm)), (aL2, .inl (cI, 6, .inl lb)), (aL3, .inl (cI, 6, .inl lt)), (aL4, .inl (cI, 6, .inl (alS lm lb fm fb n la k))), (aL5, .inl (cI, 6, .inl lk)), (aB, .inr (0, [.int (nI n), .ref aB0, .ref aB1, .ref aB2, .ref aB3, .ref aB4, .ref aB5])), (aB0, .inl (cI, 20, .inl fm)), (aB1, .inl (cI, 20, .inl fb)), (aB4, .inl (cI, 20, .inl fv))]) (lvf := fun k => [(3, .int (nI k)), (0, .ref aL), (1, .ref aB), (2, .int (nI q))]) 6 rfl rfl ?_ (fun k hk ihk => ?_)
  · refine z_iload_n K 0 dX1_live_2 rfl ?_
    refine z_bipush (v := 6) K dX1_live_3 (by decide) ?_
    refine z_cmpN K 26 6 6 dX1_live_5 (by decide) rfl rfl (by omega) (by omega) (fun _ => ?_) (fun h => absurd h (by omega))
    refine z_iconst (v := 1) K dX1_live_26 (by decide) ?_
    refine z_istore_n (lv' := [(3, .int 1), (0, .ref aL), (1, .ref aB), (2, .int (nI q))]) K dX1_live_27 (by decide) rfl ?_
    refine z_iconst (v := 0) K dX1_live_28 (by decide) ?_
    refine z_istore (lv' := [(4, .int 0), (3, .int 1), (0, .ref aL), (1, .ref aB), (2, .int (nI q))]) K dX1_live_29 (by decide) rfl ?_
    refine z_loop (wsf := fun k => [(aL, .inr (1, [.ref aL0, .ref aL1, .ref aL2, .ref aL3, .ref aL4, .ref aL5, .int ((livS lw lm (alS lm lb fm fb n la 6) fm fv n lt lk hu k).2.2.1)])), (aL0, .inl (cI, 6, .inl lw)), (aL1, .inl (cI, 6, .inl lm)), (aL2, .inl (cI, 6, .inl lb)), (aL3, .inl (cI, 6, .inl ((livS lw lm (alS lm lb fm fb n la 6) fm fv n lt lk hu k).1))), (aL4, .inl (cI, 6, .inl (alS lm lb fm fb n la 6))), (aL5, .inl (cI, 6, .inl ((livS lw lm (alS lm lb fm fb n la 6) fm fv n lt lk hu k).2.1))), (aB, .inr (0, [.int (nI n), .ref aB0, .ref aB1, .ref aB2, .ref aB3, .ref aB4, .ref aB5])), (aB0, .inl (cI, 20, .inl fm)), (aB1, .inl (cI, 20, .inl fb)), (aB4, .inl (cI, 20, .inl fv))]) (lvf := fun k => [(4, .int (nI k)), (3, .int (z_b (livS lw lm (alS lm lb fm fb n la 6) fm fv n lt lk hu k).2.2.2)), (0, .ref aL), (1, .ref aB), (2, .int (nI q))]) q rfl rfl ?_ (fun k hk ihk => ?_)
    · refine z_iload K 0 dX1_live_31 rfl ?_
      refine z_iload_n K 4 dX1_live_33 rfl ?_
      refine z_cmpN K 57 q q dX1_live_34 (by decide) rfl rfl (by omega) (by omega) (fun _ => ?_) (fun h => absurd h (by omega))
      exact z_vret K dX1_live_57 [0, 4, 5, 6] rfl (by decide) (by decide)
    · refine z_iload K 0 dX1_live_31 rfl ?_
      refine z_iload_n K 4 dX1_live_33 rfl ?_
      refine z_cmpN K 57 k q dX1_live_34 (by decide) rfl rfl (by omega) (by omega) (fun h => absurd h (by omega)) (fun _ => ?_)
      refine z_iload_n K 1 dX1_live_37 rfl ?_
      refine z_if_eqB K 57 dX1_live_38 (by decide) (fun c38 => ?_) (fun c38 => ?_)
      · rw [show ((livS lw lm (alS lm lb fm fb n la 6) fm fv n lt lk hu k).2.2.1) = ((livS lw lm (alS lm lb fm fb n la 6) fm fv n lt lk hu q).2.2.1) from (by rw [livS_stop (q := q) c38 (by omega)])]
        rw [show ((livS lw lm (alS lm lb fm fb n la 6) fm fv n lt lk hu k).2.1) = ((livS lw lm (alS lm lb fm fb n la 6) fm fv n lt lk hu q).2.1) from (by rw [livS_stop (q := q) c38 (by omega)])]
        rw [show ((livS lw lm (alS lm lb fm fb n la 6) fm fv n lt lk hu k).1) = ((livS lw lm (alS lm lb fm fb n la 6) fm fv n lt lk hu q).1) from (by rw [livS_stop (q := q) c38 (by omega)])]
        exact z_vret K dX1_live_57 [0, 4, 5, 6] rfl (by decide) (by decide)
      · refine z_aload_n K 2 dX1_live_41 rfl ?_
        refine z_callV (ws' := [(aL, .inr (1, [.ref aL0, .ref aL1, .ref aL2, .ref aL3, .ref aL4, .ref aL5, .int (hushH (alS lm lb fm fb n la 6) ((livS lw lm (alS lm lb fm fb n la 6) fm fv n lt lk hu k).1) ((livS lw lm (alS lm lb fm fb n la 6) fm fv n lt lk hu k).2.2.1) 6)])), (aL0, .inl (cI, 6, .inl lw)), (aL1, .inl (cI, 6, .inl lm)), (aL2, .inl (cI, 6, .inl lb)), (aL3, .inl (cI, 6, .inl ((livS lw lm (alS lm lb fm fb n la 6) fm fv n lt lk hu k).1))), (aL4, .inl (cI, 6, .inl (alS lm lb fm fb n la 6))), (aL5, .inl (cI, 6, .inl (hushK (alS lm lb fm fb n la 6) ((livS lw lm (alS lm lb fm fb n la 6) fm fv n lt lk hu k).1) ((livS lw lm (alS lm lb fm fb n la 6) fm fv n lt lk hu k).2.1) 6))), (aB, .inr (0, [.int (nI n), .ref aB0, .ref aB1, .ref aB2, .ref aB3, .ref aB4, .ref aB5])), (aB0, .inl (cI, 20, .inl fm)), (aB1, .inl (cI, 20, .inl fb)), (aB4, .inl (cI, 20, .inl fv))]) (st' := []) (rest := []) (C := RX1) (T := TX1) (N := 7) K (m_X1_hush l _ D cI cZ cQ cW aL aL0 aL1 aL2 aL3 aL4 aL5 ((livS lw lm (alS lm lb fm fb n la 6) fm fv n lt lk hu k).2.2.1) ((livS lw lm (alS lm lb fm fb n la 6) fm fv n lt lk hu k).1) (alS lm lb fm fb n la 6) ((livS lw lm (alS lm lb fm fb n la 6) fm fv n lt lk hu k).2.1) ) gX1_live_X1_hush rfl 0 1 (by decide +kernel) rfl dX1_live_42 [0, 4, 5, 6] 0 [0, 6] [0, 3] rfl rfl rfl ⟨by decide, by decide⟩ ⟨by decide, by decide⟩ rfl rfl rfl rfl rfl (Nat.le_of_ble_eq_true rfl) rfl rfl rfl rfl ?_
        refine z_aload_n K 2 dX1_live_45 rfl ?_
        refine z_aload_n K 3 dX1_live_46 rfl ?_
        refine z_callV (ws' := [(aL, .inr (1, [.ref aL0, .ref aL1, .ref aL2, .ref aL3, .ref aL4, .ref aL5, .int (hushH (alS lm lb fm fb n la 6) ((livS lw lm (alS lm lb fm fb n la 6) fm fv n lt lk hu k).1) ((livS lw lm (alS lm lb fm fb n la 6) fm fv n lt lk hu k).2.2.1) 6)])), (aL0, .inl (cI, 6, .inl lw)), (aL1, .inl (cI, 6, .inl lm)), (aL2, .inl (cI, 6, .inl lb)), (aL3, .inl (cI, 6, .inl (sprT lw lm (alS lm lb fm fb n la 6) (hushK (alS lm lb fm fb n la 6) ((livS lw lm (alS lm lb fm fb n la 6) fm fv n lt lk hu k).1) ((livS lw lm (alS lm lb fm fb n la 6) fm fv n lt lk hu k).2.1) 6) fm fv n ((livS lw lm (alS lm lb fm fb n la 6) fm fv n lt lk hu k).1) 6))), (aL4, .inl (cI, 6, .inl (alS lm lb fm fb n la 6))), (aL5, .inl (cI, 6, .inl (hushK (alS lm lb fm fb n la 6) ((livS lw lm (alS lm lb fm fb n la 6) fm fv n lt lk hu k).1) ((livS lw lm (alS lm lb fm fb n la 6) fm fv n lt lk hu k).2.1) 6))), (aB, .inr (0, [.int (nI n), .ref aB0, .ref aB1, .ref aB2, .ref aB3, .ref aB4, .ref aB5])), (aB0, .inl (cI, 20, .inl fm)), (aB1, .inl (cI, 20, .inl fb)), (aB4, .inl (cI, 20, .inl fv))]) (st' := [.int (z_b (sprC lw lm (alS lm lb fm fb n la 6) (hushK (alS lm lb fm fb n la 6) ((livS lw lm (alS lm lb fm fb n la 6) fm fv n lt lk hu k).1) ((livS lw lm (alS lm lb fm fb n la 6) fm fv n lt lk hu k).2.1) 6) fm fv n ((livS lw lm (alS lm lb fm fb n la 6) fm fv n lt lk hu k).1) 6))]) (rest := []) (C := RX1) (T := TX1) (N := 7) K (m_X1_spread l _ D cI cZ cQ cW aL aB aL0 aL1 aL2 aL3 aL4 aL5 (hushH (alS lm lb fm fb n la 6) ((livS lw lm (alS lm lb fm fb n la 6) fm fv n lt lk hu k).1) ((livS lw lm (alS lm lb fm fb n la 6) fm fv n lt lk hu k).2.2.1) 6) lw lm ((livS lw lm (alS lm lb fm fb n la 6) fm fv n lt lk hu k).1) (alS lm lb fm fb n la 6) (hushK (alS lm lb fm fb n la 6) ((livS lw lm (alS lm lb fm fb n la 6) fm fv n lt lk hu k).1) ((livS lw lm (alS lm lb fm fb n la 6) fm fv n lt lk hu k).2.1) 6) n aB0 aB1 aB2 aB3 aB4 aB5 fm fv (by omega)) gX1_live_X1_spread rfl 1 1 (by decide +kernel) rfl dX1_live_47 [0, 1, 2, 4, 5, 6, 7, 8, 10] 0 [4] [1] rfl rfl rfl ⟨by decide, by decide⟩ ⟨by decide, by decide⟩ rfl rfl rfl rfl rfl (Nat.le_of_ble_eq_true rfl) rfl rfl rfl rfl ?_
        refine z_istore_n (lv' := [(3, .int (z_b (sprC lw lm (alS lm lb fm fb n la 6) (hushK (alS lm lb fm fb n la 6) ((livS lw lm (alS lm lb fm fb n la 6) fm fv n lt lk hu k).1) ((livS lw lm (alS lm lb fm fb n la 6) fm fv n lt lk hu k).2.1) 6) fm fv n ((livS lw lm (alS lm lb fm fb n la 6) fm fv n lt lk hu k).1) 6))), (4, .int (nI k)), (0, .ref aL), (1, .ref aB), (2, .int (nI q))]) K dX1_live_50 (by decide) rfl ?_
        refine z_iinc (lv' := [(4, .int (nI (k + 1))), (3, .int (z_b (sprC lw lm (alS lm lb fm fb n la 6) (hushK (alS lm lb fm fb n la 6) ((livS lw lm (alS lm lb fm fb n la 6) fm fv n lt lk hu k).1) ((livS lw lm (alS lm lb fm fb n la 6) fm fv n lt lk hu k).2.1) 6) fm fv n ((livS lw lm (alS lm lb fm fb n la 6) fm fv n lt lk hu k).1) 6))), (0, .ref aL), (1, .ref aB), (2, .int (nI q))]) (v := nI (k + 1)) K 1 dX1_live_51 rfl (z_inc1 k) (by decide) rfl ?_
        refine z_goto K 31 dX1_live_54 (by decide) ?_
        rw [show (z_b (livS lw lm (alS lm lb fm fb n la 6) fm fv n lt lk hu (k + 1)).2.2.2) = (z_b (sprC lw lm (alS lm lb fm fb n la 6) (hushK (alS lm lb fm fb n la 6) ((livS lw lm (alS lm lb fm fb n la 6) fm fv n lt lk hu k).1) ((livS lw lm (alS lm lb fm fb n la 6) fm fv n lt lk hu k).2.1) 6) fm fv n ((livS lw lm (alS lm lb fm fb n la 6) fm fv n lt lk hu k).1) 6)) from (by first | (simp only [livS_succ, stepS, c38, Bool.false_eq_true, if_false, if_true, ↓reduceIte]; done) | rfl | simp [livS_succ, stepS, c38])] at ihk
        rw [show ((livS lw lm (alS lm lb fm fb n la 6) fm fv n lt lk hu (k + 1)).2.2.1) = (hushH (alS lm lb fm fb n la 6) ((livS lw lm (alS lm lb fm fb n la 6) fm fv n lt lk hu k).1) ((livS lw lm (alS lm lb fm fb n la 6) fm fv n lt lk hu k).2.2.1) 6) from (by first | (simp only [livS_succ, stepS, c38, Bool.false_eq_true, if_false, if_true, ↓reduceIte]; done) | rfl | simp [livS_succ, stepS, c38])] at ihk
        rw [show ((livS lw lm (alS lm lb fm fb n la 6) fm fv n lt lk hu (k + 1)).1) = (sprT lw lm (alS lm lb fm fb n la 6) (hushK (alS lm lb fm fb n la 6) ((livS lw lm (alS lm lb fm fb n la 6) fm fv n lt lk hu k).1) ((livS lw lm (alS lm lb fm fb n la 6) fm fv n lt lk hu k).2.1) 6) fm fv n ((livS lw lm (alS lm lb fm fb n la 6) fm fv n lt lk hu k).1) 6) from (by first | (simp only [livS_succ, stepS, c38, Bool.false_eq_true, if_false, if_true, ↓reduceIte]; done) | rfl | simp [livS_succ, stepS, c38])] at ihk
        rw [show ((livS lw lm (alS lm lb fm fb n la 6) fm fv n lt lk hu (k + 1)).2.1) = (hushK (alS lm lb fm fb n la 6) ((livS lw lm (alS lm lb fm fb n la 6) fm fv n lt lk hu k).1) ((livS lw lm (alS lm lb fm fb n la 6) fm fv n lt lk hu k).2.1) 6) from (by first | (simp only [livS_succ, stepS, c38, Bool.false_eq_true, if_false, if_true, ↓reduceIte]; done) | rfl | simp [livS_succ, stepS, c38])] at ihk
        exact ihk
  · refine z_iload_n K 0 dX1_live_2 rfl ?_
    refine z_bipush (v := 6) K dX1_live_3 (by decide) ?_
    refine z_cmpN K 26 k 6 dX1_live_5 (by decide) rfl rfl (by omega) (by omega) (fun h => absurd h (by omega)) (fun _ => ?_)
    refine z_aload_n K 1 dX1_live_8 rfl ?_
    refine z_get (C := RX1) (T := TX1) (N := 7) (ci := 1) K iX1 rfl 0 rfl 4 (by decide) (by decide +kernel) rfl rfl dX1_live_9 ?_
    refine z_iload_n K 0 dX1_live_12 rfl ?_
    refine z_aload_n K 1 dX1_live_13 rfl ?_
    refine z_aload_n K 2 dX1_live_14 rfl ?_
    refine z_iload_n K 0 dX1_live_15 rfl ?_
    refine z_callV (ws' := [(aL, .inr (1, [.ref aL0, .ref aL1, .ref aL2, .ref aL3, .ref aL4, .ref aL5, .int hu])), (aL0, .inl (cI, 6, .inl lw)), (aL1, .inl (cI, 6, .inl lm)), (aL2, .inl (cI, 6, .inl lb)), (aL3, .inl (cI, 6, .inl lt)), (aL4, .inl (cI, 6, .inl (alS lm lb fm fb n la k))), (aL5, .inl (cI, 6, .inl lk)), (aB, .inr (0, [.int (nI n), .ref aB0, .ref aB1, .ref aB2, .ref aB3, .ref aB4, .ref aB5])), (aB0, .inl (cI, 20, .inl fm)), (aB1, .inl (cI, 20, .inl fb)), (aB4, .inl (cI, 20, .inl fv))]) (st' := [.int (welS lm lb fm fb k n), .int (nI k), .ref aL4]) (rest := [.int (nI k), .ref aL4]) (C := RX1) (T := TX1) (N := 7) K (m_X1_welcome l _ D cI cZ cQ cW aL aB k aL0 aL1 aL2 aL3 aL4 aL5 hu lm lb n aB0 aB1 aB2 aB3 aB4 aB5 fm fb (by omega) (by omega)) gX1_live_X1_welcome rfl 2 1 (by decide +kernel) rfl dX1_live_16 [0, 2, 3, 7, 8, 9] 0 [] [] rfl rfl rfl ⟨by decide, by decide⟩ ⟨by decide, by decide⟩ rfl rfl rfl rfl rfl (Nat.le_of_ble_eq_true rfl) rfl rfl rfl rfl ?_
    refine z_iastN K 5 0 k (by omega) (by omega) rfl rfl dX1_live_19 (z_memA 2 rfl) (ws' := [(aL, .inr (1, [.ref aL0, .ref aL1, .ref aL2, .ref aL3, .ref aL4, .ref aL5, .int hu])), (aL0, .inl (cI, 6, .inl lw)), (aL1, .inl (cI, 6, .inl lm)), (aL2, .inl (cI, 6, .inl lb)), (aL3, .inl (cI, 6, .inl lt)), (aL4, .inl (cI, 6, .inl (upd (alS lm lb fm fb n la k) k (welS lm lb fm fb k n)))), (aL5, .inl (cI, 6, .inl lk)), (aB, .inr (0, [.int (nI n), .ref aB0, .ref aB1, .ref aB2, .ref aB3, .ref aB4, .ref aB5])), (aB0, .inl (cI, 20, .inl fm)), (aB1, .inl (cI, 20, .inl fb)), (aB4, .inl (cI, 20, .inl fv))]) rfl ?_
    refine z_iinc (lv' := [(3, .int (nI (k + 1))), (0, .ref aL), (1, .ref aB), (2, .int (nI q))]) (v := nI (k + 1)) K 0 dX1_live_20 rfl (z_inc1 k) (by decide) rfl ?_
    refine z_goto K 2 dX1_live_23 (by decide) ?_
    rw [show (alS lm lb fm fb n la (k + 1)) = (upd (alS lm lb fm fb n la k) k (welS lm lb fm fb k n)) from (by first | (simp only [livS_succ, stepS, Bool.false_eq_true, if_false, if_true, ↓reduceIte]; done) | rfl | simp [livS_succ, stepS])] at ihk
    exact ihk
