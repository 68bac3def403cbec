set_option maxRecDepth 100000 in
set_option maxHeartbeats 4000000 in
theorem m_X2_has (l : Launch) (G : Nat → Prop) (D : va_G) (cI cJ : ClassId) (w : Int32) (k : Int32)  : z_M l yX2_has wsX2_has { frames := 0, cells := 0, slots := 0, locals := 0 } G D [(cI, .int), (cJ, .long)] [.int w, .int k] [] (some (.int (z_b (hs w k)))) [] 0 0 := by
  refine z_ofW (cc := cX2_has) (nL := 2) (ret := (some .boolean)) (by decide) rfl (Nat.le_of_ble_eq_true rfl) [] rfl (lv0 := [(0, .int w), (1, .int k)]) rfl ?_
  intro p e s m args below meth c K
  refine z_iload_n K 0 dX2_has_0 rfl ?_
  refine z_iload_n K 1 dX2_has_1 rfl ?_
  refine z_ishr K dX2_has_2 ?_
  refine z_iconst (v := 1) K dX2_has_3 (by decide) ?_
  refine z_iand K dX2_has_4 ?_
  refine z_if_eq K 12 dX2_has_5 (by decide) (fun c5 => ?_) (fun c5 => ?_)
  · refine z_iconst (v := 0) K dX2_has_12 (by decide) ?_
    exact z_zret K dX2_has_13 (by simp [z_b, hs, c5]) [] rfl (by decide) (by decide)
  · refine z_iconst (v := 1) K dX2_has_8 (by decide) ?_
    refine z_goto K 13 dX2_has_9 (by decide) ?_
    exact z_zret K dX2_has_13 (by simp [z_b, hs, c5]) [] rfl (by decide) (by decide)

set_option maxRecDepth 100000 in
set_option maxHeartbeats 4000000 in
theorem m_X2_turned (l : Launch) (G : Nat → Prop) (D : va_G) (cI cJ : ClassId) (w : Int32) (k : Int32)  : z_M l yX2_turned wsX2_turned { frames := 0, cells := 0, slots := 0, locals := 0 } G D [(cI, .int), (cJ, .long)] [.int w, .int k] [] (some (.int (tu w k))) [] 0 0 := by
  refine z_ofW (cc := cX2_turned) (nL := 2) (ret := (some .int)) (by decide) rfl (Nat.le_of_ble_eq_true rfl) [] rfl (lv0 := [(0, .int w), (1, .int k)]) rfl ?_
  intro p e s m args below meth c K
  refine z_iload_n K 0 dX2_turned_0 rfl ?_
  refine z_iconst (v := 1) K dX2_turned_1 (by decide) ?_
  refine z_iload_n K 1 dX2_turned_2 rfl ?_
  refine z_ishl K dX2_turned_3 ?_
  refine z_ixor K dX2_turned_4 ?_
  exact z_iret K dX2_turned_5 (rfl) [] rfl (by decide) (by decide)

set_option maxRecDepth 100000 in
set_option maxHeartbeats 4000000 in
theorem m_X2_smallestAlone (l : Launch) (G : Nat → Prop) (D : va_G) (cI cJ : ClassId) (w : Int32)  : z_M l yX2_smallestAlone wsX2_smallestAlone { frames := 0, cells := 0, slots := 0, locals := 0 } G D [(cI, .int), (cJ, .long)] [.int w] [] (some (.int (sal w))) [] 0 0 := by
  refine z_ofW (cc := cX2_smallestAlone) (nL := 1) (ret := (some .int)) (by decide) rfl (Nat.le_of_ble_eq_true rfl) [] rfl (lv0 := [(0, .int w)]) rfl ?_
  intro p e s m args below meth c K
  refine z_iload_n K 0 dX2_smallestAlone_0 rfl ?_
  refine z_iload_n K 0 dX2_smallestAlone_1 rfl ?_
  refine z_ineg K dX2_smallestAlone_2 ?_
  refine z_iand K dX2_smallestAlone_3 ?_
  exact z_iret K dX2_smallestAlone_4 (rfl) [] rfl (by decide) (by decide)

set_option maxRecDepth 100000 in
set_option maxHeartbeats 4000000 in
theorem m_J6_bitCount_0f7a4 (l : Launch) (G : Nat → Prop) (D : va_G) (cI cJ : ClassId) (w : Int32)  : z_M l yJ6_bitCount_0f7a4 wsJ6_bitCount_0f7a4 { frames := 0, cells := 0, slots := 0, locals := 0 } G D [(cI, .int), (cJ, .long)] [.int w] [] (some (.int (pc w))) [] 0 0 := by
  refine z_ofW (cc := cJ6_bitCount_0f7a4) (nL := 1) (ret := (some .int)) (by decide) rfl (Nat.le_of_ble_eq_true rfl) [] rfl (lv0 := [(0, .int w)]) rfl ?_
  intro p e s m args below meth c K
  refine z_iload_n K 0 dJ6_bitCount_0f7a4_0 rfl ?_
  refine z_iload_n K 0 dJ6_bitCount_0f7a4_1 rfl ?_
  refine z_iconst (v := 1) K dJ6_bitCount_0f7a4_2 (by decide) ?_
  refine z_iushr (v := ((w.toUInt32 >>> (Int32.toUInt32 1 &&& Int32.toUInt32 31)).toInt32)) K dJ6_bitCount_0f7a4_3 rfl ?_
  refine z_ldcw (v := 1431655765) K dJ6_bitCount_0f7a4_4 (by decide +kernel) ?_
  refine z_iand K dJ6_bitCount_0f7a4_7 ?_
  refine z_isub K dJ6_bitCount_0f7a4_8 ?_
  refine z_istore_n (lv' := [(0, .int (w - (((w.toUInt32 >>> (Int32.toUInt32 1 &&& Int32.toUInt32 31)).toInt32) &&& 1431655765)))]) K dJ6_bitCount_0f7a4_9 (by decide) rfl ?_
  refine z_iload_n K 0 dJ6_bitCount_0f7a4_10 rfl ?_
  refine z_ldcw (v := 858993459) K dJ6_bitCount_0f7a4_11 (by decide +kernel) ?_
  refine z_iand K dJ6_bitCount_0f7a4_14 ?_
  refine z_iload_n K 0 dJ6_bitCount_0f7a4_15 rfl ?_
  refine z_iconst (v := 2) K dJ6_bitCount_0f7a4_16 (by decide) ?_
  refine z_iushr (v := (((w - (((w.toUInt32 >>> (Int32.toUInt32 1 &&& Int32.toUInt32 31)).toInt32) &&& 1431655765)).toUInt32 >>> (Int32.toUInt32 2 &&& Int32.toUInt32 31)).toInt32)) K dJ6_bitCount_0f7a4_17 rfl ?_
  refine z_ldcw (v := 858993459) K dJ6_bitCount_0f7a4_18 (by decide +kernel) ?_
  refine z_iand K dJ6_bitCount_0f7a4_21 ?_
  refine z_iadd K dJ6_bitCount_0f7a4_22 ?_
  refine z_istore_n (lv' := [(0, .int (((w - (((w.toUInt32 >>> (Int32.toUInt32 1 &&& Int32.toUInt32 31)).toInt32) &&& 1431655765)) &&& 858993459) + ((((w - (((w.toUInt32 >>> (Int32.toUInt32 1 &&& Int32.toUInt32 31)).toInt32) &&& 1431655765)).toUInt32 >>> (Int32.toUInt32 2 &&& Int32.toUInt32 31)).toInt32) &&& 858993459)))]) K dJ6_bitCount_0f7a4_23 (by decide) rfl ?_
  refine z_iload_n K 0 dJ6_bitCount_0f7a4_24 rfl ?_
  refine z_iload_n K 0 dJ6_bitCount_0f7a4_25 rfl ?_
  refine z_iconst (v := 4) K dJ6_bitCount_0f7a4_26 (by decide) ?_
  refine z_iushr (v := (((((w - (((w.toUInt32 >>> (Int32.toUInt32 1 &&& Int32.toUInt32 31)).toInt32) &&& 1431655765)) &&& 858993459) + ((((w - (((w.toUInt32 >>> (Int32.toUInt32 1 &&& Int32.toUInt32 31)).toInt32) &&& 1431655765)).toUInt32 >>> (Int32.toUInt32 2 &&& Int32.toUInt32 31)).toInt32) &&& 858993459)).toUInt32 >>> (Int32.toUInt32 4 &&& Int32.toUInt32 31)).toInt32)) K dJ6_bitCount_0f7a4_27 rfl ?_
  refine z_iadd K dJ6_bitCount_0f7a4_28 ?_
  refine z_ldcw (v := 252645135) K dJ6_bitCount_0f7a4_29 (by decide +kernel) ?_
  refine z_iand K dJ6_bitCount_0f7a4_32 ?_
  refine z_istore_n (lv' := [(0, .int (((((w - (((w.toUInt32 >>> (Int32.toUInt32 1 &&& Int32.toUInt32 31)).toInt32) &&& 1431655765)) &&& 858993459) + ((((w - (((w.toUInt32 >>> (Int32.toUInt32 1 &&& Int32.toUInt32 31)).toInt32) &&& 1431655765)).toUInt32 >>> (Int32.toUInt32 2 &&& Int32.toUInt32 31)).toInt32) &&& 858993459)) + (((((w - (((w.toUInt32 >>> (Int32.toUInt32 1 &&& Int32.toUInt32 31)).toInt32) &&& 1431655765)) &&& 858993459) + ((((w - (((w.toUInt32 >>> (Int32.toUInt32 1 &&& Int32.toUInt32 31)).toInt32) &&& 1431655765)).toUInt32 >>> (Int32.toUInt32 2 &&& Int32.toUInt32 31)).toInt32) &&& 858993459)).toUInt32 >>> (Int32.toUInt32 4 &&& Int32.toUInt32 31)).toInt32)) &&& 252645135))]) K dJ6_bitCount_0f7a4_33 (by decide) rfl ?_
  refine z_iload_n K 0 dJ6_bitCount_0f7a4_34 rfl ?_
  refine z_iload_n K 0 dJ6_bitCount_0f7a4_35 rfl ?_
  refine z_bipush (v := 8) K dJ6_bitCount_0f7a4_36 (by decide) ?_
  refine z_iushr (v := (((((((w - (((w.toUInt32 >>> (Int32.toUInt32 1 &&& Int32.toUInt32 31)).toInt32) &&& 1431655765)) &&& 858993459) + ((((w - (((w.toUInt32 >>> (Int32.toUInt32 1 &&& Int32.toUInt32 31)).toInt32) &&& 1431655765)).toUInt32 >>> (Int32.toUInt32 2 &&& Int32.toUInt32 31)).toInt32) &&& 858993459)) + (((((w - (((w.toUInt32 >>> (Int32.toUInt32 1 &&& Int32.toUInt32 31)).toInt32) &&& 1431655765)) &&& 858993459) + ((((w - (((w.toUInt32 >>> (Int32.toUInt32 1 &&& Int32.toUInt32 31)).toInt32) &&& 1431655765)).toUInt32 >>> (Int32.toUInt32 2 &&& Int32.toUInt32 31)).toInt32) &&& 858993459)).toUInt32 >>> (Int32.toUInt32 4 &&& Int32.toUInt32 31)).toInt32)) &&& 252645135).toUInt32 >>> (Int32.toUInt32 8 &&& Int32.toUInt32 31)).toInt32)) K dJ6_bitCount_0f7a4_38 rfl ?_
  refine z_iadd K dJ6_bitCount_0f7a4_39 ?_
  refine z_istore_n (lv' := [(0, .int ((((((w - (((w.toUInt32 >>> (Int32.toUInt32 1 &&& Int32.toUInt32 31)).toInt32) &&& 1431655765)) &&& 858993459) + ((((w - (((w.toUInt32 >>> (Int32.toUInt32 1 &&& Int32.toUInt32 31)).toInt32) &&& 1431655765)).toUInt32 >>> (Int32.toUInt32 2 &&& Int32.toUInt32 31)).toInt32) &&& 858993459)) + (((((w - (((w.toUInt32 >>> (Int32.toUInt32 1 &&& Int32.toUInt32 31)).toInt32) &&& 1431655765)) &&& 858993459) + ((((w - (((w.toUInt32 >>> (Int32.toUInt32 1 &&& Int32.toUInt32 31)).toInt32) &&& 1431655765)).toUInt32 >>> (Int32.toUInt32 2 &&& Int32.toUInt32 31)).toInt32) &&& 858993459)).toUInt32 >>> (Int32.toUInt32 4 &&& Int32.toUInt32 31)).toInt32)) &&& 252645135) + (((((((w - (((w.toUInt32 >>> (Int32.toUInt32 1 &&& Int32.toUInt32 31)).toInt32) &&& 1431655765)) &&& 858993459) + ((((w - (((w.toUInt32 >>> (Int32.toUInt32 1 &&& Int32.toUInt32 31)).toInt32) &&& 1431655765)).toUInt32 >>> (Int32.toUInt32 2 &&& Int32.toUInt32 31)).toInt32) &&& 858993459)) + (((((w - (((w.toUInt32 >>> (Int32.toUInt32 1 &&& Int32.toUInt32 31)).toInt32) &&& 1431655765)) &&& 858993459) + ((((w - (((w.toUInt32 >>> (Int32.toUInt32 1 &&& Int32.toUInt32 31)).toInt32) &&& 1431655765)).toUInt32 >>> (Int32.toUInt32 2 &&& Int32.toUInt32 31)).toInt32) &&& 858993459)).toUInt32 >>> (Int32.toUInt32 4 &&& Int32.toUInt32 31)).toInt32)) &&& 252645135).toUInt32 >>> (Int32.toUInt32 8 &&& Int32.toUInt32 31)).toInt32)))]) K dJ6_bitCount_0f7a4_40 (by decide) rfl ?_
  refine z_iload_n K 0 dJ6_bitCount_0f7a4_41 rfl ?_
  refine z_iload_n K 0 dJ6_bitCount_0f7a4_42 rfl ?_
  refine z_bipush (v := 16) K dJ6_bitCount_0f7a4_43 (by decide) ?_
  refine z_iushr (v := ((((((((w - (((w.toUInt32 >>> (Int32.toUInt32 1 &&& Int32.toUInt32 31)).toInt32) &&& 1431655765)) &&& 858993459) + ((((w - (((w.toUInt32 >>> (Int32.toUInt32 1 &&& Int32.toUInt32 31)).toInt32) &&& 1431655765)).toUInt32 >>> (Int32.toUInt32 2 &&& Int32.toUInt32 31)).toInt32) &&& 858993459)) + (((((w - (((w.toUInt32 >>> (Int32.toUInt32 1 &&& Int32.toUInt32 31)).toInt32) &&& 1431655765)) &&& 858993459) + ((((w - (((w.toUInt32 >>> (Int32.toUInt32 1 &&& Int32.toUInt32 31)).toInt32) &&& 1431655765)).toUInt32 >>> (Int32.toUInt32 2 &&& Int32.toUInt32 31)).toInt32) &&& 858993459)).toUInt32 >>> (Int32.toUInt32 4 &&& Int32.toUInt32 31)).toInt32)) &&& 252645135) + (((((((w - (((w.toUInt32 >>> (Int32.toUInt32 1 &&& Int32.toUInt32 31)).toInt32) &&& 1431655765)) &&& 858993459) + ((((w - (((w.toUInt32 >>> (Int32.toUInt32 1 &&& Int32.toUInt32 31)).toInt32) &&& 1431655765)).toUInt32 >>> (Int32.toUInt32 2 &&& Int32.toUInt32 31)).toInt32) &&& 858993459)) + (((((w - (((w.toUInt32 >>> (Int32.toUInt32 1 &&& Int32.toUInt32 31)).toInt32) &&& 1431655765)) &&& 858993459) + ((((w - (((w.toUInt32 >>> (Int32.toUInt32 1 &&& Int32.toUInt32 31)).toInt32) &&& 1431655765)).toUInt32 >>> (Int32.toUInt32 2 &&& Int32.toUInt32 31)).toInt32) &&& 858993459)).toUInt32 >>> (Int32.toUInt32 4 &&& Int32.toUInt32 31)).toInt32)) &&& 252645135).toUInt32 >>> (Int32.toUInt32 8 &&& Int32.toUInt32 31)).toInt32)).toUInt32 >>> (Int32.toUInt32 16 &&& Int32.toUInt32 31)).toInt32)) K dJ6_bitCount_0f7a4_45 rfl ?_
  refine z_iadd K dJ6_bitCount_0f7a4_46 ?_
  refine z_istore_n (lv' := [(0, .int (((((((w - (((w.toUInt32 >>> (Int32.toUInt32 1 &&& Int32.toUInt32 31)).toInt32) &&& 1431655765)) &&& 858993459) + ((((w - (((w.toUInt32 >>> (Int32.toUInt32 1 &&& Int32.toUInt32 31)).toInt32) &&& 1431655765)).toUInt32 >>> (Int32.toUInt32 2 &&& Int32.toUInt32 31)).toInt32) &&& 858993459)) + (((((w - (((w.toUInt32 >>> (Int32.toUInt32 1 &&& Int32.toUInt32 31)).toInt32) &&& 1431655765)) &&& 858993459) + ((((w - (((w.toUInt32 >>> (Int32.toUInt32 1 &&& Int32.toUInt32 31)).toInt32) &&& 1431655765)).toUInt32 >>> (Int32.toUInt32 2 &&& Int32.toUInt32 31)).toInt32) &&& 858993459)).toUInt32 >>> (Int32.toUInt32 4 &&& Int32.toUInt32 31)).toInt32)) &&& 252645135) + (((((((w - (((w.toUInt32 >>> (Int32.toUInt32 1 &&& Int32.toUInt32 31)).toInt32) &&& 1431655765)) &&& 858993459) + ((((w - (((w.toUInt32 >>> (Int32.toUInt32 1 &&& Int32.toUInt32 31)).toInt32) &&& 1431655765)).toUInt32 >>> (Int32.toUInt32 2 &&& Int32.toUInt32 31)).toInt32) &&& 858993459)) + (((((w - (((w.toUInt32 >>> (Int32.toUInt32 1 &&& Int32.toUInt32 31)).toInt32) &&& 1431655765)) &&& 858993459) + ((((w - (((w.toUInt32 >>> (Int32.toUInt32 1 &&& Int32.toUInt32 31)).toInt32) &&& 1431655765)).toUInt32 >>> (Int32.toUInt32 2 &&& Int32.toUInt32 31)).toInt32) &&& 858993459)).toUInt32 >>> (Int32.toUInt32 4 &&& Int32.toUInt32 31)).toInt32)) &&& 252645135).toUInt32 >>> (Int32.toUInt32 8 &&& Int32.toUInt32 31)).toInt32)) + ((((((((w - (((w.toUInt32 >>> (Int32.toUInt32 1 &&& Int32.toUInt32 31)).toInt32) &&& 1431655765)) &&& 858993459) + ((((w - (((w.toUInt32 >>> (Int32.toUInt32 1 &&& Int32.toUInt32 31)).toInt32) &&& 1431655765)).toUInt32 >>> (Int32.toUInt32 2 &&& Int32.toUInt32 31)).toInt32) &&& 858993459)) + (((((w - (((w.toUInt32 >>> (Int32.toUInt32 1 &&& Int32.toUInt32 31)).toInt32) &&& 1431655765)) &&& 858993459) + ((((w - (((w.toUInt32 >>> (Int32.toUInt32 1 &&& Int32.toUInt32 31)).toInt32) &&& 1431655765)).toUInt32 >>> (Int32.toUInt32 2 &&& Int32.toUInt32 31)).toInt32) &&& 858993459)).toUInt32 >>> (Int32.toUInt32 4 &&& Int32.toUInt32 31)).toInt32)) &&& 252645135) + (((((((w - (((w.toUInt32 >>> (Int32.toUInt32 1 &&& Int32.toUInt32 31)).toInt32) &&& 1431655765)) &&& 858993459) + ((((w - (((w.toUInt32 >>> (Int32.toUInt32 1 &&& Int32.toUInt32 31)).toInt32) &&& 1431655765)).toUInt32 >>> (Int32.toUInt32 2 &&& Int32.toUInt32 31)).toInt32) &&& 858993459)) + (((((w - (((w.toUInt32 >>> (Int32.toUInt32 1 &&& Int32.toUInt32 31)).toInt32) &&& 1431655765)) &&& 858993459) + ((((w - (((w.toUInt32 >>> (Int32.toUInt32 1 &&& Int32.toUInt32 31)).toInt32) &&& 1431655765)).toUInt32 >>> (Int32.toUInt32 2 &&& Int32.toUInt32 31)).toInt32) &&& 858993459)).toUInt32 >>> (Int32.toUInt32 4 &&& Int32.toUInt32 31)).toInt32)) &&& 252645135).toUInt32 >>> (Int32.toUInt32 8 &&& Int32.toUInt32 31)).toInt32)).toUInt32 >>> (Int32.toUInt32 16 &&& Int32.toUInt32 31)).toInt32)))]) K dJ6_bitCount_0f7a4_47 (by decide) rfl ?_
  refine z_iload_n K 0 dJ6_bitCount_0f7a4_48 rfl ?_
  refine z_bipush (v := 63) K dJ6_bitCount_0f7a4_49 (by decide) ?_
  refine z_iand K dJ6_bitCount_0f7a4_51 ?_
  exact z_iret K dJ6_bitCount_0f7a4_52 (sorry) [] rfl (by decide) (by decide)

set_option maxRecDepth 100000 in
set_option maxHeartbeats 4000000 in
theorem m_X2_size (l : Launch) (G : Nat → Prop) (D : va_G) (cI cJ : ClassId) (w : Int32)  : z_M l yX2_size wsX2_size { frames := 1, cells := 0, slots := 0, locals := 20 } G D [(cI, .int), (cJ, .long)] [.int w] [] (some (.int (pc w))) [] 0 0 := by
  refine z_ofW (cc := cX2_size) (nL := 1) (ret := (some .int)) (by decide) rfl (Nat.le_of_ble_eq_true rfl) [] rfl (lv0 := [(0, .int w)]) rfl ?_
  intro p e s m args below meth c K
  refine z_iload_n K 0 dX2_size_0 rfl ?_
  refine z_callS (ws' := []) (st' := [.int (pc w)]) (rest := []) K (m_J6_bitCount_0f7a4 l G D cI cJ w ) gX2_size_J6_bitCount_0f7a4 rfl 1 (by decide +kernel) dX2_size_1 [] [] [] rfl rfl rfl ⟨by decide, by decide⟩ ⟨by decide, by decide⟩ rfl rfl rfl rfl (Nat.le_of_ble_eq_true rfl) rfl rfl rfl rfl ?_
  exact z_iret K dX2_size_4 (rfl) [] rfl (by decide) (by decide)

set_option maxRecDepth 100000 in
set_option maxHeartbeats 4000000 in
theorem m_X1_count (l : Launch) (G : Nat → Prop) (D : va_G) (cI cJ : ClassId) (aL : Nat) (w : Int32) (aL0 : Nat) (aL1 : Nat) (aL2 : Nat) (aL3 : Nat) (aL4 : Nat) (aL5 : Nat) (hu : Int32) (lt : Nat → Int32)  : z_M l yX1_count wsX1_count { frames := 2, cells := 0, slots := 0, locals := 40 } G D [(cI, .int), (cJ, .long)] [.ref aL, .int w] [(aL, .inr (1, [.ref aL0, .ref aL1, .ref aL2, .ref aL3, .ref aL4, .ref aL5, .int hu])), (aL3, .inl (cI, 6, .inl lt))] (some (.int (cntS lt w 6))) [] 0 0 := by
  have iX1 : ∀ w ∈ u_ws RX1 TX1 7, w ∈ wsX1_count := fun w h => List.mem_cons_of_mem _ (List.mem_append_right _ h)
  refine z_ofW (cc := cX1_count) (nL := 4) (ret := (some .int)) (by decide) rfl (Nat.le_of_ble_eq_true rfl) [] rfl (lv0 := [(0, .ref aL), (1, .int w)]) rfl ?_
  intro p e s m args below meth c K
  refine z_iconst (v := 0) K dX1_count_0 (by decide) ?_
  refine z_istore_n (lv' := [(2, .int 0), (0, .ref aL), (1, .int w)]) K dX1_count_1 (by decide) rfl ?_
  refine z_iconst (v := 0) K dX1_count_2 (by decide) ?_
  refine z_istore_n (lv' := [(3, .int 0), (2, .int 0), (0, .ref aL), (1, .int w)]) K dX1_count_3 (by decide) rfl ?_
  refine z_loop (wsf := fun k => [(aL, .inr (1, [.ref aL0, .ref aL1, .ref aL2, .ref aL3, .ref aL4, .ref aL5, .int hu])), (aL3, .inl (cI, 6, .inl lt))]) (lvf := fun k => [(3, .int (nI k)), (2, .int (cntS lt w k)), (0, .ref aL), (1, .int w)]) 6 rfl rfl ?_ (fun k hk ihk => ?_)
  · refine z_iload_n K 0 dX1_count_4 rfl ?_
    refine z_bipush (v := 6) K dX1_count_5 (by decide) ?_
    refine z_cmpN K 30 6 6 dX1_count_7 (by decide) rfl rfl (by omega) (by omega) (fun _ => ?_) (fun h => absurd h (by omega))
    refine z_iload_n K 1 dX1_count_30 rfl ?_
    exact z_iret K dX1_count_31 (rfl) [] rfl (by decide) (by decide)
  · refine z_iload_n K 0 dX1_count_4 rfl ?_
    refine z_bipush (v := 6) K dX1_count_5 (by decide) ?_
    refine z_cmpN K 30 k 6 dX1_count_7 (by decide) rfl rfl (by omega) (by omega) (fun h => absurd h (by omega)) (fun _ => ?_)
    refine z_iload_n K 1 dX1_count_10 rfl ?_
    refine z_aload_n K 2 dX1_count_11 rfl ?_
    refine z_get (C := RX1) (T := TX1) (N := 7) (ci := 1) K iX1 rfl 0 rfl 3 (by decide) (by decide +kernel) rfl rfl dX1_count_12 ?_
    refine z_iload_n K 0 dX1_count_15 rfl ?_
    refine z_ialdN K 1 0 k (by omega) (by omega) rfl rfl dX1_count_16 ?_
    refine z_iload_n K 3 dX1_count_17 rfl ?_
    refine z_iand K dX1_count_18 ?_
    refine z_callSN (st' := [.int (pc ((lt k) &&& w)), .int (cntS lt w k)]) (rest := [.int (cntS lt w k)]) K (m_X2_size l G D cI cJ ((lt k) &&& w) ) gX1_count_X2_size_n57 rfl 1 (host := "FableIndex") (by decide) (by decide +kernel) (by decide +kernel) (by decide +kernel) dX1_count_19 rfl rfl ⟨by decide, by decide⟩ ⟨by decide, by decide⟩ rfl rfl (Nat.le_of_ble_eq_true rfl) rfl ?_
    refine z_iadd K dX1_count_22 ?_
    refine z_istore_n (lv' := [(2, .int (cntS lt w k + (pc ((lt k) &&& w)))), (3, .int (nI k)), (0, .ref aL), (1, .int w)]) K dX1_count_23 (by decide) rfl ?_
    refine z_iinc (lv' := [(3, .int (nI (k + 1))), (2, .int (cntS lt w k + (pc ((lt k) &&& w)))), (0, .ref aL), (1, .int w)]) (v := nI (k + 1)) K 1 dX1_count_24 rfl (z_inc1 k) (by decide) rfl ?_
    refine z_goto K 4 dX1_count_27 (by decide) ?_
    exact ihk

set_option maxRecDepth 100000 in
set_option maxHeartbeats 4000000 in
theorem m_X0_all (l : Launch) (G : Nat → Prop) (D : va_G) (cI cJ : ClassId) (aB : Nat) (n : Nat) (aB0 : Nat) (aB1 : Nat) (aB2 : Nat) (aB3 : Nat) (aB4 : Nat) (aB5 : Nat)  : z_M l yX0_all wsX0_all { frames := 0, cells := 0, slots := 0, locals := 0 } G D [(cI, .int), (cJ, .long)] [.ref aB] [(aB, .inr (0, [.int (nI n), .ref aB0, .ref aB1, .ref aB2, .ref aB3, .ref aB4, .ref aB5]))] (some (.int (allS n))) [] 0 0 := by
  have iX0 : ∀ w ∈ u_ws RX0 TX0 7, w ∈ wsX0_all := fun w h => List.mem_cons_of_mem _ (List.mem_append_right _ h)
  refine z_ofW (cc := cX0_all) (nL := 1) (ret := (some .int)) (by decide) rfl (Nat.le_of_ble_eq_true rfl) [] rfl (lv0 := [(0, .ref aB)]) rfl ?_
  intro p e s m args below meth c K
  refine z_iconst (v := 1) K dX0_all_0 (by decide) ?_
  refine z_aload_n K 0 dX0_all_1 rfl ?_
  refine z_get (C := RX0) (T := TX0) (N := 7) (ci := 0) K iX0 rfl 0 rfl 0 (by decide) (by decide +kernel) rfl rfl dX0_all_2 ?_
  refine z_ishl K dX0_all_5 ?_
  refine z_iconst (v := 1) K dX0_all_6 (by decide) ?_
  refine z_isub K dX0_all_7 ?_
  exact z_iret K dX0_all_8 (rfl) [] rfl (by decide) (by decide)

set_option maxRecDepth 100000 in
set_option maxHeartbeats 4000000 in
theorem m_X1_bans (l : Launch) (G : Nat → Prop) (D : va_G) (cI cJ : ClassId) (aL : Nat) (aB : Nat) (f : Nat) (v : Nat) (aL0 : Nat) (aL1 : Nat) (aL2 : Nat) (aL3 : Nat) (aL4 : Nat) (aL5 : Nat) (hu : Int32) (lm : Nat → Int32) (lb : Nat → Int32) (n : Nat) (aB0 : Nat) (aB1 : Nat) (aB2 : Nat) (aB3 : Nat) (aB4 : Nat) (aB5 : Nat) (fm : Nat → Int32) (fb : Nat → Int32) (hf : f < 20) (hv : v < 6) : z_M l yX1_bans wsX1_bans { frames := 1, cells := 0, slots := 0, locals := 21 } G D [(cI, .int), (cJ, .long)] [.ref aL, .ref aB, .int (nI f), .int (nI v)] [(aL, .inr (1, [.ref aL0, .ref aL1, .ref aL2, .ref aL3, .ref aL4, .ref aL5, .int hu])), (aL1, .inl (cI, 6, .inl lm)), (aL2, .inl (cI, 6, .inl lb)), (aB, .inr (0, [.int (nI n), .ref aB0, .ref aB1, .ref aB2, .ref aB3, .ref aB4, .ref aB5])), (aB0, .inl (cI, 20, .inl fm)), (aB1, .inl (cI, 20, .inl fb))] (some (.int (z_b (ban lm lb fm fb f v)))) [] 0 0 := by
  have iX1 : ∀ w ∈ u_ws RX1 TX1 7, w ∈ wsX1_bans := fun w h => List.mem_cons_of_mem _ (List.mem_append_left _ (List.mem_append_right _ h))
  have iX0 : ∀ w ∈ u_ws RX0 TX0 7, w ∈ wsX1_bans := fun w h => List.mem_cons_of_mem _ (List.mem_append_right _ h)
  refine z_ofW (cc := cX1_bans) (nL := 4) (ret := (some .boolean)) (by decide) rfl (Nat.le_of_ble_eq_true rfl) [] rfl (lv0 := [(0, .ref aL), (1, .ref aB), (2, .int (nI f)), (3, .int (nI v))]) rfl ?_
  intro p e s m args below meth c K
  refine z_aload_n K 0 dX1_bans_0 rfl ?_
  refine z_get (C := RX1) (T := TX1) (N := 7) (ci := 1) K iX1 rfl 0 rfl 1 (by decide) (by decide +kernel) rfl rfl dX1_bans_1 ?_
  refine z_iload_n K 3 dX1_bans_4 rfl ?_
  refine z_ialdN K 1 0 v (by omega) (by omega) rfl rfl dX1_bans_5 ?_
  refine z_aload_n K 1 dX1_bans_6 rfl ?_
  refine z_get (C := RX0) (T := TX0) (N := 7) (ci := 0) K iX0 rfl 3 rfl 1 (by decide) (by decide +kernel) rfl rfl dX1_bans_7 ?_
  refine z_iload_n K 2 dX1_bans_10 rfl ?_
  refine z_ialdN K 4 0 f (by omega) (by omega) rfl rfl dX1_bans_11 ?_
  refine z_callSN (st' := [.int (z_b (hs (lm v) (fm f)))]) (rest := []) K (m_X2_has l G D cI cJ (lm v) (fm f) ) gX1_bans_X2_has_n43 rfl 2 (host := "FableIndex") (by decide) (by decide +kernel) (by decide +kernel) (by decide +kernel) dX1_bans_12 rfl rfl ⟨by decide, by decide⟩ ⟨by decide, by decide⟩ rfl rfl (Nat.le_of_ble_eq_true rfl) rfl ?_
  refine z_if_neB K 34 dX1_bans_15 (by decide) (fun c15 => ?_) (fun c15 => ?_)
  · refine z_iconst (v := 1) K dX1_bans_34 (by decide) ?_
    refine z_goto K 39 dX1_bans_35 (by decide) ?_
    exact z_zret K dX1_bans_39 (by simp [z_b, ban, c15]) [] rfl (by decide) (by decide)
  · refine z_aload_n K 0 dX1_bans_18 rfl ?_
    refine z_get (C := RX1) (T := TX1) (N := 7) (ci := 1) K iX1 rfl 0 rfl 2 (by decide) (by decide +kernel) rfl rfl dX1_bans_19 ?_
    refine z_iload_n K 3 dX1_bans_22 rfl ?_
    refine z_ialdN K 2 0 v (by omega) (by omega) rfl rfl dX1_bans_23 ?_
    refine z_aload_n K 1 dX1_bans_24 rfl ?_
    refine z_get (C := RX0) (T := TX0) (N := 7) (ci := 0) K iX0 rfl 3 rfl 2 (by decide) (by decide +kernel) rfl rfl dX1_bans_25 ?_
    refine z_iload_n K 2 dX1_bans_28 rfl ?_
    refine z_ialdN K 5 0 f (by omega) (by omega) rfl rfl dX1_bans_29 ?_
    refine z_iand K dX1_bans_30 ?_
    refine z_if_eq K 38 dX1_bans_31 (by decide) (fun c31 => ?_) (fun c31 => ?_)
    · refine z_iconst (v := 0) K dX1_bans_38 (by decide) ?_
      exact z_zret K dX1_bans_39 (by simp [z_b, ban, c15, c31]) [] rfl (by decide) (by decide)
    · refine z_iconst (v := 1) K dX1_bans_34 (by decide) ?_
      refine z_goto K 39 dX1_bans_35 (by decide) ?_
      exact z_zret K dX1_bans_39 (by simp [z_b, ban, c15, c31]) [] rfl (by decide) (by decide)
