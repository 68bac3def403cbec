set_option maxRecDepth 100000 in
set_option maxHeartbeats 4000000 in
theorem m_X2_moralOf (l : Launch) (G : Nat → Prop) (D : va_G) (cI cZ cQ cW : ClassId) (aX : Nat) (f : Nat) (aB : Nat) (aL : Nat) (aT : Nat) (se : Int32) (n : Nat) (aB0 : Nat) (aB1 : Nat) (aB2 : Nat) (aB3 : Nat) (aB4 : Nat) (aB5 : Nat) (fm : Nat → Int32) (hn : n ≤ 20) (hf : f < n) : z_M l yX2_moralOf wsX2_moralOf { frames := 1, cells := 0, slots := 0, locals := 21 } G D [(cI, .int), (cZ, .boolean), (cQ, .array .int), (cW, .array .boolean)] [.ref aX, .int (nI f)] ([(aX, .inr (2, [.ref aB, .ref aL, .ref aT, .int se])), (aB, .inr (0, [.int (nI n), .ref aB0, .ref aB1, .ref aB2, .ref aB3, .ref aB4, .ref aB5])), (aB0, .inl (cI, 20, .inl fm))]) (some (.int (fm f))) [] 0 0 := by
  have iX2 : ∀ w ∈ u_ws RX2 TX2 4, w ∈ wsX2_moralOf := fun w h => List.mem_cons_of_mem _ (List.mem_append_left _ (List.mem_append_left _ (List.mem_append_right _ h)))
  have iX0 : ∀ w ∈ u_ws RX0 TX0 7, w ∈ wsX2_moralOf := fun w h => List.mem_cons_of_mem _ (List.mem_append_left _ (List.mem_append_right _ h))
  refine z_ofW (cc := cX2_moralOf) (nL := 2) (ret := (some .int)) (by decide) rfl (Nat.le_of_ble_eq_true rfl) [] rfl (lv0 := [(0, .ref aX), (1, .int (nI f))]) rfl ?_
  intro p e s m args below meth c K
  refine z_aload_n K 0 dX2_moralOf_0 rfl ?_
  refine z_iload_n K 1 dX2_moralOf_1 rfl ?_
  refine z_callV (ws' := [(aX, .inr (2, [.ref aB, .ref aL, .ref aT, .int se])), (aB, .inr (0, [.int (nI n), .ref aB0, .ref aB1, .ref aB2, .ref aB3, .ref aB4, .ref aB5])), (aB0, .inl (cI, 20, .inl fm))]) (st' := []) (rest := []) (C := RX2) (T := TX2) (N := 4) K (m_X2_needFable l _ D cI cZ cQ cW aX f aB aL aT se n aB0 aB1 aB2 aB3 aB4 aB5 (by omega) (by omega)) gX2_moralOf_X2_needFable rfl 1 2 (by decide +kernel) rfl dX2_moralOf_2 [0, 1] 0 [] [] rfl rfl rfl ⟨by decide, by decide⟩ ⟨by decide, by decide⟩ rfl rfl rfl rfl rfl (Nat.le_of_ble_eq_true rfl) rfl rfl rfl rfl ?_
  refine z_aload_n K 0 dX2_moralOf_5 rfl ?_
  refine z_get (C := RX2) (T := TX2) (N := 4) (ci := 2) K iX2 rfl 0 rfl 0 (by decide) (by decide +kernel) rfl rfl dX2_moralOf_6 ?_
  refine z_get (C := RX0) (T := TX0) (N := 7) (ci := 0) K iX0 rfl 1 rfl 1 (by decide) (by decide +kernel) rfl rfl dX2_moralOf_9 ?_
  refine z_iload_n K 1 dX2_moralOf_12 rfl ?_
  refine z_ialdN K 2 0 f (by omega) (by omega) rfl rfl dX2_moralOf_13 ?_
  exact z_iret K dX2_moralOf_14 (rfl) [] rfl (by decide) (by decide)

set_option maxRecDepth 100000 in
set_option maxHeartbeats 4000000 in
theorem m_X2_beastsOf (l : Launch) (G : Nat → Prop) (D : va_G) (cI cZ cQ cW : ClassId) (aX : Nat) (f : Nat) (aB : Nat) (aL : Nat) (aT : Nat) (se : Int32) (n : Nat) (aB0 : Nat) (aB1 : Nat) (aB2 : Nat) (aB3 : Nat) (aB4 : Nat) (aB5 : Nat) (fb : Nat → Int32) (hn : n ≤ 20) (hf : f < n) : z_M l yX2_beastsOf wsX2_beastsOf { frames := 2, cells := 0, slots := 0, locals := 40 } G D [(cI, .int), (cZ, .boolean), (cQ, .array .int), (cW, .array .boolean)] [.ref aX, .int (nI f)] ([(aX, .inr (2, [.ref aB, .ref aL, .ref aT, .int se])), (aB, .inr (0, [.int (nI n), .ref aB0, .ref aB1, .ref aB2, .ref aB3, .ref aB4, .ref aB5])), (aB1, .inl (cI, 20, .inl fb))]) (some (.int (pc (fb f)))) [] 0 0 := by
  have iX2 : ∀ w ∈ u_ws RX2 TX2 4, w ∈ wsX2_beastsOf := fun w h => List.mem_cons_of_mem _ (List.mem_append_left _ (List.mem_append_left _ (List.mem_append_right _ h)))
  have iX0 : ∀ w ∈ u_ws RX0 TX0 7, w ∈ wsX2_beastsOf := fun w h => List.mem_cons_of_mem _ (List.mem_append_left _ (List.mem_append_right _ h))
  refine z_ofW (cc := cX2_beastsOf) (nL := 2) (ret := (some .int)) (by decide) rfl (Nat.le_of_ble_eq_true rfl) [] rfl (lv0 := [(0, .ref aX), (1, .int (nI f))]) rfl ?_
  intro p e s m args below meth c K
  refine z_aload_n K 0 dX2_beastsOf_0 rfl ?_
  refine z_iload_n K 1 dX2_beastsOf_1 rfl ?_
  refine z_callV (ws' := [(aX, .inr (2, [.ref aB, .ref aL, .ref aT, .int se])), (aB, .inr (0, [.int (nI n), .ref aB0, .ref aB1, .ref aB2, .ref aB3, .ref aB4, .ref aB5])), (aB1, .inl (cI, 20, .inl fb))]) (st' := []) (rest := []) (C := RX2) (T := TX2) (N := 4) K (m_X2_needFable l _ D cI cZ cQ cW aX f aB aL aT se n aB0 aB1 aB2 aB3 aB4 aB5 (by omega) (by omega)) gX2_beastsOf_X2_needFable rfl 1 2 (by decide +kernel) rfl dX2_beastsOf_2 [0, 1] 0 [] [] rfl rfl rfl ⟨by decide, by decide⟩ ⟨by decide, by decide⟩ rfl rfl rfl rfl rfl (Nat.le_of_ble_eq_true rfl) rfl rfl rfl rfl ?_
  refine z_aload_n K 0 dX2_beastsOf_5 rfl ?_
  refine z_get (C := RX2) (T := TX2) (N := 4) (ci := 2) K iX2 rfl 0 rfl 0 (by decide) (by decide +kernel) rfl rfl dX2_beastsOf_6 ?_
  refine z_get (C := RX0) (T := TX0) (N := 7) (ci := 0) K iX0 rfl 1 rfl 2 (by decide) (by decide +kernel) rfl rfl dX2_beastsOf_9 ?_
  refine z_iload_n K 1 dX2_beastsOf_12 rfl ?_
  refine z_ialdN K 2 0 f (by omega) (by omega) rfl rfl dX2_beastsOf_13 ?_
  refine z_callS (ws' := [(aX, .inr (2, [.ref aB, .ref aL, .ref aT, .int se])), (aB, .inr (0, [.int (nI n), .ref aB0, .ref aB1, .ref aB2, .ref aB3, .ref aB4, .ref aB5])), (aB1, .inl (cI, 20, .inl fb))]) (st' := [.int (pc (fb f))]) (rest := []) K (m_X2_size l _ D cI cZ cQ cW (fb f) ) gX2_beastsOf_X2_size rfl 1 (by decide +kernel) dX2_beastsOf_14 [] [] [] rfl rfl rfl ⟨by decide, by decide⟩ ⟨by decide, by decide⟩ rfl rfl rfl rfl (Nat.le_of_ble_eq_true rfl) rfl rfl rfl rfl ?_
  exact z_iret K dX2_beastsOf_17 (rfl) [] rfl (by decide) (by decide)

set_option maxRecDepth 100000 in
set_option maxHeartbeats 4000000 in
theorem m_X2_homeOf (l : Launch) (G : Nat → Prop) (D : va_G) (cI cZ cQ cW : ClassId) (aX : Nat) (f : Nat) (aB : Nat) (aL : Nat) (aT : Nat) (se : Int32) (n : Nat) (aB0 : Nat) (aB1 : Nat) (aB2 : Nat) (aB3 : Nat) (aB4 : Nat) (aB5 : Nat) (fh : Nat → Int32) (hn : n ≤ 20) (hf : f < n) : z_M l yX2_homeOf wsX2_homeOf { frames := 1, cells := 0, slots := 0, locals := 21 } G D [(cI, .int), (cZ, .boolean), (cQ, .array .int), (cW, .array .boolean)] [.ref aX, .int (nI f)] ([(aX, .inr (2, [.ref aB, .ref aL, .ref aT, .int se])), (aB, .inr (0, [.int (nI n), .ref aB0, .ref aB1, .ref aB2, .ref aB3, .ref aB4, .ref aB5])), (aB2, .inl (cI, 20, .inl fh))]) (some (.int (fh f))) [] 0 0 := by
  have iX2 : ∀ w ∈ u_ws RX2 TX2 4, w ∈ wsX2_homeOf := fun w h => List.mem_cons_of_mem _ (List.mem_append_left _ (List.mem_append_left _ (List.mem_append_right _ h)))
  have iX0 : ∀ w ∈ u_ws RX0 TX0 7, w ∈ wsX2_homeOf := fun w h => List.mem_cons_of_mem _ (List.mem_append_left _ (List.mem_append_right _ h))
  refine z_ofW (cc := cX2_homeOf) (nL := 2) (ret := (some .int)) (by decide) rfl (Nat.le_of_ble_eq_true rfl) [] rfl (lv0 := [(0, .ref aX), (1, .int (nI f))]) rfl ?_
  intro p e s m args below meth c K
  refine z_aload_n K 0 dX2_homeOf_0 rfl ?_
  refine z_iload_n K 1 dX2_homeOf_1 rfl ?_
  refine z_callV (ws' := [(aX, .inr (2, [.ref aB, .ref aL, .ref aT, .int se])), (aB, .inr (0, [.int (nI n), .ref aB0, .ref aB1, .ref aB2, .ref aB3, .ref aB4, .ref aB5])), (aB2, .inl (cI, 20, .inl fh))]) (st' := []) (rest := []) (C := RX2) (T := TX2) (N := 4) K (m_X2_needFable l _ D cI cZ cQ cW aX f aB aL aT se n aB0 aB1 aB2 aB3 aB4 aB5 (by omega) (by omega)) gX2_homeOf_X2_needFable rfl 1 2 (by decide +kernel) rfl dX2_homeOf_2 [0, 1] 0 [] [] rfl rfl rfl ⟨by decide, by decide⟩ ⟨by decide, by decide⟩ rfl rfl rfl rfl rfl (Nat.le_of_ble_eq_true rfl) rfl rfl rfl rfl ?_
  refine z_aload_n K 0 dX2_homeOf_5 rfl ?_
  refine z_get (C := RX2) (T := TX2) (N := 4) (ci := 2) K iX2 rfl 0 rfl 0 (by decide) (by decide +kernel) rfl rfl dX2_homeOf_6 ?_
  refine z_get (C := RX0) (T := TX0) (N := 7) (ci := 0) K iX0 rfl 1 rfl 3 (by decide) (by decide +kernel) rfl rfl dX2_homeOf_9 ?_
  refine z_iload_n K 1 dX2_homeOf_12 rfl ?_
  refine z_ialdN K 2 0 f (by omega) (by omega) rfl rfl dX2_homeOf_13 ?_
  exact z_iret K dX2_homeOf_14 (rfl) [] rfl (by decide) (by decide)

set_option maxRecDepth 100000 in
set_option maxHeartbeats 4000000 in
theorem m_X2_parentOf (l : Launch) (G : Nat → Prop) (D : va_G) (cI cZ cQ cW : ClassId) (aX : Nat) (f : Nat) (aB : Nat) (aL : Nat) (aT : Nat) (se : Int32) (n : Nat) (aB0 : Nat) (aB1 : Nat) (aB2 : Nat) (aB3 : Nat) (aB4 : Nat) (aB5 : Nat) (fp : Nat → Int32) (hn : n ≤ 20) (hf : f < n) : z_M l yX2_parentOf wsX2_parentOf { frames := 1, cells := 0, slots := 0, locals := 21 } G D [(cI, .int), (cZ, .boolean), (cQ, .array .int), (cW, .array .boolean)] [.ref aX, .int (nI f)] ([(aX, .inr (2, [.ref aB, .ref aL, .ref aT, .int se])), (aB, .inr (0, [.int (nI n), .ref aB0, .ref aB1, .ref aB2, .ref aB3, .ref aB4, .ref aB5])), (aB3, .inl (cI, 20, .inl fp))]) (some (.int (fp f))) [] 0 0 := by
  have iX2 : ∀ w ∈ u_ws RX2 TX2 4, w ∈ wsX2_parentOf := fun w h => List.mem_cons_of_mem _ (List.mem_append_left _ (List.mem_append_left _ (List.mem_append_right _ h)))
  have iX0 : ∀ w ∈ u_ws RX0 TX0 7, w ∈ wsX2_parentOf := fun w h => List.mem_cons_of_mem _ (List.mem_append_left _ (List.mem_append_right _ h))
  refine z_ofW (cc := cX2_parentOf) (nL := 2) (ret := (some .int)) (by decide) rfl (Nat.le_of_ble_eq_true rfl) [] rfl (lv0 := [(0, .ref aX), (1, .int (nI f))]) rfl ?_
  intro p e s m args below meth c K
  refine z_aload_n K 0 dX2_parentOf_0 rfl ?_
  refine z_iload_n K 1 dX2_parentOf_1 rfl ?_
  refine z_callV (ws' := [(aX, .inr (2, [.ref aB, .ref aL, .ref aT, .int se])), (aB, .inr (0, [.int (nI n), .ref aB0, .ref aB1, .ref aB2, .ref aB3, .ref aB4, .ref aB5])), (aB3, .inl (cI, 20, .inl fp))]) (st' := []) (rest := []) (C := RX2) (T := TX2) (N := 4) K (m_X2_needFable l _ D cI cZ cQ cW aX f aB aL aT se n aB0 aB1 aB2 aB3 aB4 aB5 (by omega) (by omega)) gX2_parentOf_X2_needFable rfl 1 2 (by decide +kernel) rfl dX2_parentOf_2 [0, 1] 0 [] [] rfl rfl rfl ⟨by decide, by decide⟩ ⟨by decide, by decide⟩ rfl rfl rfl rfl rfl (Nat.le_of_ble_eq_true rfl) rfl rfl rfl rfl ?_
  refine z_aload_n K 0 dX2_parentOf_5 rfl ?_
  refine z_get (C := RX2) (T := TX2) (N := 4) (ci := 2) K iX2 rfl 0 rfl 0 (by decide) (by decide +kernel) rfl rfl dX2_parentOf_6 ?_
  refine z_get (C := RX0) (T := TX0) (N := 7) (ci := 0) K iX0 rfl 1 rfl 4 (by decide) (by decide +kernel) rfl rfl dX2_parentOf_9 ?_
  refine z_iload_n K 1 dX2_parentOf_12 rfl ?_
  refine z_ialdN K 2 0 f (by omega) (by omega) rfl rfl dX2_parentOf_13 ?_
  exact z_iret K dX2_parentOf_14 (rfl) [] rfl (by decide) (by decide)

set_option maxRecDepth 100000 in
set_option maxHeartbeats 4000000 in
theorem m_X2_variantsOf (l : Launch) (G : Nat → Prop) (D : va_G) (cI cZ cQ cW : ClassId) (aX : Nat) (f : Nat) (aB : Nat) (aL : Nat) (aT : Nat) (se : Int32) (n : Nat) (aB0 : Nat) (aB1 : Nat) (aB2 : Nat) (aB3 : Nat) (aB4 : Nat) (aB5 : Nat) (fv : Nat → Int32) (hn : n ≤ 20) (hf : f < n) : z_M l yX2_variantsOf wsX2_variantsOf { frames := 2, cells := 0, slots := 0, locals := 40 } G D [(cI, .int), (cZ, .boolean), (cQ, .array .int), (cW, .array .boolean)] [.ref aX, .int (nI f)] ([(aX, .inr (2, [.ref aB, .ref aL, .ref aT, .int se])), (aB, .inr (0, [.int (nI n), .ref aB0, .ref aB1, .ref aB2, .ref aB3, .ref aB4, .ref aB5])), (aB4, .inl (cI, 20, .inl fv))]) (some (.int (pc (fv f)))) [] 0 0 := by
  have iX2 : ∀ w ∈ u_ws RX2 TX2 4, w ∈ wsX2_variantsOf := fun w h => List.mem_cons_of_mem _ (List.mem_append_left _ (List.mem_append_left _ (List.mem_append_right _ h)))
  have iX0 : ∀ w ∈ u_ws RX0 TX0 7, w ∈ wsX2_variantsOf := fun w h => List.mem_cons_of_mem _ (List.mem_append_left _ (List.mem_append_right _ h))
  refine z_ofW (cc := cX2_variantsOf) (nL := 2) (ret := (some .int)) (by decide) rfl (Nat.le_of_ble_eq_true rfl) [] rfl (lv0 := [(0, .ref aX), (1, .int (nI f))]) rfl ?_
  intro p e s m args below meth c K
  refine z_aload_n K 0 dX2_variantsOf_0 rfl ?_
  refine z_iload_n K 1 dX2_variantsOf_1 rfl ?_
  refine z_callV (ws' := [(aX, .inr (2, [.ref aB, .ref aL, .ref aT, .int se])), (aB, .inr (0, [.int (nI n), .ref aB0, .ref aB1, .ref aB2, .ref aB3, .ref aB4, .ref aB5])), (aB4, .inl (cI, 20, .inl fv))]) (st' := []) (rest := []) (C := RX2) (T := TX2) (N := 4) K (m_X2_needFable l _ D cI cZ cQ cW aX f aB aL aT se n aB0 aB1 aB2 aB3 aB4 aB5 (by omega) (by omega)) gX2_variantsOf_X2_needFable rfl 1 2 (by decide +kernel) rfl dX2_variantsOf_2 [0, 1] 0 [] [] rfl rfl rfl ⟨by decide, by decide⟩ ⟨by decide, by decide⟩ rfl rfl rfl rfl rfl (Nat.le_of_ble_eq_true rfl) rfl rfl rfl rfl ?_
  refine z_aload_n K 0 dX2_variantsOf_5 rfl ?_
  refine z_get (C := RX2) (T := TX2) (N := 4) (ci := 2) K iX2 rfl 0 rfl 0 (by decide) (by decide +kernel) rfl rfl dX2_variantsOf_6 ?_
  refine z_get (C := RX0) (T := TX0) (N := 7) (ci := 0) K iX0 rfl 1 rfl 5 (by decide) (by decide +kernel) rfl rfl dX2_variantsOf_9 ?_
  refine z_iload_n K 1 dX2_variantsOf_12 rfl ?_
  refine z_ialdN K 2 0 f (by omega) (by omega) rfl rfl dX2_variantsOf_13 ?_
  refine z_callS (ws' := [(aX, .inr (2, [.ref aB, .ref aL, .ref aT, .int se])), (aB, .inr (0, [.int (nI n), .ref aB0, .ref aB1, .ref aB2, .ref aB3, .ref aB4, .ref aB5])), (aB4, .inl (cI, 20, .inl fv))]) (st' := [.int (pc (fv f))]) (rest := []) K (m_X2_size l _ D cI cZ cQ cW (fv f) ) gX2_variantsOf_X2_size rfl 1 (by decide +kernel) dX2_variantsOf_14 [] [] [] rfl rfl rfl ⟨by decide, by decide⟩ ⟨by decide, by decide⟩ rfl rfl rfl rfl (Nat.le_of_ble_eq_true rfl) rfl rfl rfl rfl ?_
  exact z_iret K dX2_variantsOf_17 (rfl) [] rfl (by decide) (by decide)

set_option maxRecDepth 100000 in
set_option maxHeartbeats 4000000 in
theorem m_X2_valleysOf (l : Launch) (G : Nat → Prop) (D : va_G) (cI cZ cQ cW : ClassId) (aX : Nat) (f : Nat) (aB : Nat) (aL : Nat) (aT : Nat) (se : Int32) (n : Nat) (aB0 : Nat) (aB1 : Nat) (aB2 : Nat) (aB3 : Nat) (aB4 : Nat) (aB5 : Nat) (aL0 : Nat) (aL1 : Nat) (aL2 : Nat) (aL3 : Nat) (aL4 : Nat) (aL5 : Nat) (hu : Int32) (lt : Nat → Int32) (hn : n ≤ 20) (hf : f < n) : z_M l yX2_valleysOf wsX2_valleysOf { frames := 3, cells := 0, slots := 0, locals := 63 } G D [(cI, .int), (cZ, .boolean), (cQ, .array .int), (cW, .array .boolean)] [.ref aX, .int (nI f)] ([(aX, .inr (2, [.ref aB, .ref aL, .ref aT, .int se])), (aB, .inr (0, [.int (nI n), .ref aB0, .ref aB1, .ref aB2, .ref aB3, .ref aB4, .ref aB5])), (aL, .inr (1, [.ref aL0, .ref aL1, .ref aL2, .ref aL3, .ref aL4, .ref aL5, .int hu])), (aL3, .inl (cI, 6, .inl lt))]) (some (.int (cntS lt ((1 : Int32) <<< (nI f &&& 31)) 6))) [] 0 0 := by
  have iX2 : ∀ w ∈ u_ws RX2 TX2 4, w ∈ wsX2_valleysOf := fun w h => List.mem_cons_of_mem _ (List.mem_append_left _ (List.mem_append_left _ (List.mem_append_left _ (List.mem_append_right _ h))))
  have iX0 : ∀ w ∈ u_ws RX0 TX0 7, w ∈ wsX2_valleysOf := fun w h => List.mem_cons_of_mem _ (List.mem_append_left _ (List.mem_append_left _ (List.mem_append_right _ h)))
  have iX1 : ∀ w ∈ u_ws RX1 TX1 7, w ∈ wsX2_valleysOf := fun w h => List.mem_cons_of_mem _ (List.mem_append_left _ (List.mem_append_right _ h))
  refine z_ofW (cc := cX2_valleysOf) (nL := 2) (ret := (some .int)) (by decide) rfl (Nat.le_of_ble_eq_true rfl) [] rfl (lv0 := [(0, .ref aX), (1, .int (nI f))]) rfl ?_
  intro p e s m args below meth c K
  refine z_aload_n K 0 dX2_valleysOf_0 rfl ?_
  refine z_iload_n K 1 dX2_valleysOf_1 rfl ?_
  refine z_callV (ws' := [(aX, .inr (2, [.ref aB, .ref aL, .ref aT, .int se])), (aB, .inr (0, [.int (nI n), .ref aB0, .ref aB1, .ref aB2, .ref aB3, .ref aB4, .ref aB5])), (aL, .inr (1, [.ref aL0, .ref aL1, .ref aL2, .ref aL3, .ref aL4, .ref aL5, .int hu])), (aL3, .inl (cI, 6, .inl lt))]) (st' := []) (rest := []) (C := RX2) (T := TX2) (N := 4) K (m_X2_needFable l _ D cI cZ cQ cW aX f aB aL aT se n aB0 aB1 aB2 aB3 aB4 aB5 (by omega) (by omega)) gX2_valleysOf_X2_needFable rfl 1 2 (by decide +kernel) rfl dX2_valleysOf_2 [0, 1] 0 [] [] rfl rfl rfl ⟨by decide, by decide⟩ ⟨by decide, by decide⟩ rfl rfl rfl rfl rfl (Nat.le_of_ble_eq_true rfl) rfl rfl rfl rfl ?_
  refine z_aload_n K 0 dX2_valleysOf_5 rfl ?_
  refine z_get (C := RX2) (T := TX2) (N := 4) (ci := 2) K iX2 rfl 0 rfl 1 (by decide) (by decide +kernel) rfl rfl dX2_valleysOf_6 ?_
  refine z_iconst (v := 1) K dX2_valleysOf_9 (by decide) ?_
  refine z_iload_n K 1 dX2_valleysOf_10 rfl ?_
  refine z_ishl K dX2_valleysOf_11 ?_
  refine z_callV (ws' := [(aX, .inr (2, [.ref aB, .ref aL, .ref aT, .int se])), (aB, .inr (0, [.int (nI n), .ref aB0, .ref aB1, .ref aB2, .ref aB3, .ref aB4, .ref aB5])), (aL, .inr (1, [.ref aL0, .ref aL1, .ref aL2, .ref aL3, .ref aL4, .ref aL5, .int hu])), (aL3, .inl (cI, 6, .inl lt))]) (st' := [.int (cntS lt ((1 : Int32) <<< (nI f &&& 31)) 6)]) (rest := []) (C := RX1) (T := TX1) (N := 7) K (m_X1_count l _ D cI cZ cQ cW aL ((1 : Int32) <<< (nI f &&& 31)) aL0 aL1 aL2 aL3 aL4 aL5 hu lt ) gX2_valleysOf_X1_count rfl 1 1 (by decide +kernel) rfl dX2_valleysOf_12 [2, 3] 2 [] [] rfl rfl rfl ⟨by decide, by decide⟩ ⟨by decide, by decide⟩ rfl rfl rfl rfl rfl (Nat.le_of_ble_eq_true rfl) rfl rfl rfl rfl ?_
  exact z_iret K dX2_valleysOf_15 (rfl) [] rfl (by decide) (by decide)

set_option maxRecDepth 100000 in
set_option maxHeartbeats 4000000 in
theorem m_X2_hasBeast (l : Launch) (G : Nat → Prop) (D : va_G) (cI cZ cQ cW : ClassId) (aX : Nat) (f : Nat) (b : Nat) (aB : Nat) (aL : Nat) (aT : Nat) (se : Int32) (n : Nat) (aB0 : Nat) (aB1 : Nat) (aB2 : Nat) (aB3 : Nat) (aB4 : Nat) (aB5 : Nat) (fb : Nat → Int32) (hn : n ≤ 20) (hf : f < n) (hb : b < 12) : z_M l yX2_hasBeast wsX2_hasBeast { frames := 1, cells := 0, slots := 0, locals := 21 } G D [(cI, .int), (cZ, .boolean), (cQ, .array .int), (cW, .array .boolean)] [.ref aX, .int (nI f), .int (nI b)] ([(aX, .inr (2, [.ref aB, .ref aL, .ref aT, .int se])), (aB, .inr (0, [.int (nI n), .ref aB0, .ref aB1, .ref aB2, .ref aB3, .ref aB4, .ref aB5])), (aB1, .inl (cI, 20, .inl fb))]) (some (.int (z_b (hs (fb f) (nI b))))) [] 0 0 := by
  have iX2 : ∀ w ∈ u_ws RX2 TX2 4, w ∈ wsX2_hasBeast := fun w h => List.mem_cons_of_mem _ (List.mem_append_left _ (List.mem_append_left _ (List.mem_append_right _ h)))
  have iX0 : ∀ w ∈ u_ws RX0 TX0 7, w ∈ wsX2_hasBeast := fun w h => List.mem_cons_of_mem _ (List.mem_append_left _ (List.mem_append_right _ h))
  refine z_ofW (cc := cX2_hasBeast) (nL := 3) (ret := (some .boolean)) (by decide) rfl (Nat.le_of_ble_eq_true rfl) [] rfl (lv0 := [(0, .ref aX), (1, .int (nI f)), (2, .int (nI b))]) rfl ?_
  intro p e s m args below meth c K
  refine z_aload_n K 0 dX2_hasBeast_0 rfl ?_
  refine z_iload_n K 1 dX2_hasBeast_1 rfl ?_
  refine z_callV (ws' := [(aX, .inr (2, [.ref aB, .ref aL, .ref aT, .int se])), (aB, .inr (0, [.int (nI n), .ref aB0, .ref aB1, .ref aB2, .ref aB3, .ref aB4, .ref aB5])), (aB1, .inl (cI, 20, .inl fb))]) (st' := []) (rest := []) (C := RX2) (T := TX2) (N := 4) K (m_X2_needFable l _ D cI cZ cQ cW aX f aB aL aT se n aB0 aB1 aB2 aB3 aB4 aB5 (by omega) (by omega)) gX2_hasBeast_X2_needFable rfl 1 2 (by decide +kernel) rfl dX2_hasBeast_2 [0, 1] 0 [] [] rfl rfl rfl ⟨by decide, by decide⟩ ⟨by decide, by decide⟩ rfl rfl rfl rfl rfl (Nat.le_of_ble_eq_true rfl) rfl rfl rfl rfl ?_
  refine z_iload_n K 2 dX2_hasBeast_5 rfl ?_
  refine z_callS (ws' := [(aX, .inr (2, [.ref aB, .ref aL, .ref aT, .int se])), (aB, .inr (0, [.int (nI n), .ref aB0, .ref aB1, .ref aB2, .ref aB3, .ref aB4, .ref aB5])), (aB1, .inl (cI, 20, .inl fb))]) (st' := []) (rest := []) K (m_X2_needBeast l _ D cI cZ cQ cW b (by omega)) gX2_hasBeast_X2_needBeast rfl 1 (by decide +kernel) dX2_hasBeast_6 [] [] [] rfl rfl rfl ⟨by decide, by decide⟩ ⟨by decide, by decide⟩ rfl rfl rfl rfl (Nat.le_of_ble_eq_true rfl) rfl rfl rfl rfl ?_
  refine z_aload_n K 0 dX2_hasBeast_9 rfl ?_
  refine z_get (C := RX2) (T := TX2) (N := 4) (ci := 2) K iX2 rfl 0 rfl 0 (by decide) (by decide +kernel) rfl rfl dX2_hasBeast_10 ?_
  refine z_get (C := RX0) (T := TX0) (N := 7) (ci := 0) K iX0 rfl 1 rfl 2 (by decide) (by decide +kernel) rfl rfl dX2_hasBeast_13 ?_
  refine z_iload_n K 1 dX2_hasBeast_16 rfl ?_
  refine z_ialdN K 2 0 f (by omega) (by omega) rfl rfl dX2_hasBeast_17 ?_
  refine z_iload_n K 2 dX2_hasBeast_18 rfl ?_
  refine z_callS (ws' := [(aX, .inr (2, [.ref aB, .ref aL, .ref aT, .int se])), (aB, .inr (0, [.int (nI n), .ref aB0, .ref aB1, .ref aB2, .ref aB3, .ref aB4, .ref aB5])), (aB1, .inl (cI, 20, .inl fb))]) (st' := [.int (z_b (hs (fb f) (nI b)))]) (rest := []) K (m_X2_has l _ D cI cZ cQ cW (fb f) (nI b) ) gX2_hasBeast_X2_has rfl 2 (by decide +kernel) dX2_hasBeast_19 [] [] [] rfl rfl rfl ⟨by decide, by decide⟩ ⟨by decide, by decide⟩ rfl rfl rfl rfl (Nat.le_of_ble_eq_true rfl) rfl rfl rfl rfl ?_
  exact z_zret K dX2_hasBeast_22 (rfl) [] rfl (by decide) (by decide)

set_option maxRecDepth 100000 in
set_option maxHeartbeats 4000000 in
theorem m_X2_isTold (l : Launch) (G : Nat → Prop) (D : va_G) (cI cZ cQ cW : ClassId) (aX : Nat) (f : Nat) (v : Nat) (aB : Nat) (aL : Nat) (aT : Nat) (se : Int32) (n : Nat) (aB0 : Nat) (aB1 : Nat) (aB2 : Nat) (aB3 : Nat) (aB4 : Nat) (aB5 : Nat) (aL0 : Nat) (aL1 : Nat) (aL2 : Nat) (aL3 : Nat) (aL4 : Nat) (aL5 : Nat) (hu : Int32) (lt : Nat → Int32) (hn : n ≤ 20) (hf : f < n) (hv : v < 6) : z_M l yX2_isTold wsX2_isTold { frames := 1, cells := 0, slots := 0, locals := 21 } G D [(cI, .int), (cZ, .boolean), (cQ, .array .int), (cW, .array .boolean)] [.ref aX, .int (nI f), .int (nI v)] ([(aX, .inr (2, [.ref aB, .ref aL, .ref aT, .int se])), (aB, .inr (0, [.int (nI n), .ref aB0, .ref aB1, .ref aB2, .ref aB3, .ref aB4, .ref aB5])), (aL, .inr (1, [.ref aL0, .ref aL1, .ref aL2, .ref aL3, .ref aL4, .ref aL5, .int hu])), (aL3, .inl (cI, 6, .inl lt))]) (some (.int (z_b (hs (lt v) (nI f))))) [] 0 0 := by
  have iX2 : ∀ w ∈ u_ws RX2 TX2 4, w ∈ wsX2_isTold := fun w h => List.mem_cons_of_mem _ (List.mem_append_left _ (List.mem_append_left _ (List.mem_append_left _ (List.mem_append_right _ h))))
  have iX1 : ∀ w ∈ u_ws RX1 TX1 7, w ∈ wsX2_isTold := fun w h => List.mem_cons_of_mem _ (List.mem_append_left _ (List.mem_append_left _ (List.mem_append_right _ h)))
  have iX0 : ∀ w ∈ u_ws RX0 TX0 7, w ∈ wsX2_isTold := fun w h => List.mem_cons_of_mem _ (List.mem_append_left _ (List.mem_append_right _ h))
  refine z_ofW (cc := cX2_isTold) (nL := 3) (ret := (some .boolean)) (by decide) rfl (Nat.le_of_ble_eq_true rfl) [] rfl (lv0 := [(0, .ref aX), (1, .int (nI f)), (2, .int (nI v))]) rfl ?_
  intro p e s m args below meth c K
  refine z_aload_n K 0 dX2_isTold_0 rfl ?_
  refine z_iload_n K 1 dX2_isTold_1 rfl ?_
  refine z_callV (ws' := [(aX, .inr (2, [.ref aB, .ref aL, .ref aT, .int se])), (aB, .inr (0, [.int (nI n), .ref aB0, .ref aB1, .ref aB2, .ref aB3, .ref aB4, .ref aB5])), (aL, .inr (1, [.ref aL0, .ref aL1, .ref aL2, .ref aL3, .ref aL4, .ref aL5, .int hu])), (aL3, .inl (cI, 6, .inl lt))]) (st' := []) (rest := []) (C := RX2) (T := TX2) (N := 4) K (m_X2_needFable l _ D cI cZ cQ cW aX f aB aL aT se n aB0 aB1 aB2 aB3 aB4 aB5 (by omega) (by omega)) gX2_isTold_X2_needFable rfl 1 2 (by decide +kernel) rfl dX2_isTold_2 [0, 1] 0 [] [] rfl rfl rfl ⟨by decide, by decide⟩ ⟨by decide, by decide⟩ rfl rfl rfl rfl rfl (Nat.le_of_ble_eq_true rfl) rfl rfl rfl rfl ?_
  refine z_iload_n K 2 dX2_isTold_5 rfl ?_
  refine z_callS (ws' := [(aX, .inr (2, [.ref aB, .ref aL, .ref aT, .int se])), (aB, .inr (0, [.int (nI n), .ref aB0, .ref aB1, .ref aB2, .ref aB3, .ref aB4, .ref aB5])), (aL, .inr (1, [.ref aL0, .ref aL1, .ref aL2, .ref aL3, .ref aL4, .ref aL5, .int hu])), (aL3, .inl (cI, 6, .inl lt))]) (st' := []) (rest := []) K (m_X2_needValley l _ D cI cZ cQ cW v (by omega)) gX2_isTold_X2_needValley rfl 1 (by decide +kernel) dX2_isTold_6 [] [] [] rfl rfl rfl ⟨by decide, by decide⟩ ⟨by decide, by decide⟩ rfl rfl rfl rfl (Nat.le_of_ble_eq_true rfl) rfl rfl rfl rfl ?_
  refine z_aload_n K 0 dX2_isTold_9 rfl ?_
  refine z_get (C := RX2) (T := TX2) (N := 4) (ci := 2) K iX2 rfl 0 rfl 1 (by decide) (by decide +kernel) rfl rfl dX2_isTold_10 ?_
  refine z_get (C := RX1) (T := TX1) (N := 7) (ci := 1) K iX1 rfl 2 rfl 3 (by decide) (by decide +kernel) rfl rfl dX2_isTold_13 ?_
  refine z_iload_n K 2 dX2_isTold_16 rfl ?_
  refine z_ialdN K 3 0 v (by omega) (by omega) rfl rfl dX2_isTold_17 ?_
  refine z_iload_n K 1 dX2_isTold_18 rfl ?_
  refine z_callS (ws' := [(aX, .inr (2, [.ref aB, .ref aL, .ref aT, .int se])), (aB, .inr (0, [.int (nI n), .ref aB0, .ref aB1, .ref aB2, .ref aB3, .ref aB4, .ref aB5])), (aL, .inr (1, [.ref aL0, .ref aL1, .ref aL2, .ref aL3, .ref aL4, .ref aL5, .int hu])), (aL3, .inl (cI, 6, .inl lt))]) (st' := [.int (z_b (hs (lt v) (nI f)))]) (rest := []) K (m_X2_has l _ D cI cZ cQ cW (lt v) (nI f) ) gX2_isTold_X2_has rfl 2 (by decide +kernel) dX2_isTold_19 [] [] [] rfl rfl rfl ⟨by decide, by decide⟩ ⟨by decide, by decide⟩ rfl rfl rfl rfl (Nat.le_of_ble_eq_true rfl) rfl rfl rfl rfl ?_
  exact z_zret K dX2_isTold_22 (rfl) [] rfl (by decide) (by decide)

set_option maxRecDepth 100000 in
set_option maxHeartbeats 4000000 in
theorem m_X2_isBanned (l : Launch) (G : Nat → Prop) (D : va_G) (cI cZ cQ cW : ClassId) (aX : Nat) (f : Nat) (v : Nat) (aB : Nat) (aL : Nat) (aT : Nat) (se : Int32) (n : Nat) (aB0 : Nat) (aB1 : Nat) (aB2 : Nat) (aB3 : Nat) (aB4 : Nat) (aB5 : Nat) (fm : Nat → Int32) (fb : Nat → Int32) (aL0 : Nat) (aL1 : Nat) (aL2 : Nat) (aL3 : Nat) (aL4 : Nat) (aL5 : Nat) (hu : Int32) (lm : Nat → Int32) (lb : Nat → Int32) (hn : n ≤ 20) (hf : f < n) (hv : v < 6) : z_M l yX2_isBanned wsX2_isBanned { frames := 2, cells := 0, slots := 0, locals := 44 } G D [(cI, .int), (cZ, .boolean), (cQ, .array .int), (cW, .array .boolean)] [.ref aX, .int (nI f), .int (nI v)] ([(aX, .inr (2, [.ref aB, .ref aL, .ref aT, .int se])), (aB, .inr (0, [.int (nI n), .ref aB0, .ref aB1, .ref aB2, .ref aB3, .ref aB4, .ref aB5])), (aB0, .inl (cI, 20, .inl fm)), (aB1, .inl (cI, 20, .inl fb)), (aL, .inr (1, [.ref aL0, .ref aL1, .ref aL2, .ref aL3, .ref aL4, .ref aL5, .int hu])), (aL1, .inl (cI, 6, .inl lm)), (aL2, .inl (cI, 6, .inl lb))]) (some (.int (z_b (ban lm lb fm fb f v)))) [] 0 0 := by
  have iX2 : ∀ w ∈ u_ws RX2 TX2 4, w ∈ wsX2_isBanned := fun w h => List.mem_cons_of_mem _ (List.mem_append_left _ (List.mem_append_left _ (List.mem_append_left _ (List.mem_append_right _ h))))
  have iX0 : ∀ w ∈ u_ws RX0 TX0 7, w ∈ wsX2_isBanned := fun w h => List.mem_cons_of_mem _ (List.mem_append_left _ (List.mem_append_left _ (List.mem_append_right _ h)))
  have iX1 : ∀ w ∈ u_ws RX1 TX1 7, w ∈ wsX2_isBanned := fun w h => List.mem_cons_of_mem _ (List.mem_append_left _ (List.mem_append_right _ h))
  refine z_ofW (cc := cX2_isBanned) (nL := 3) (ret := (some .boolean)) (by decide) rfl (Nat.le_of_ble_eq_true rfl) [] rfl (lv0 := [(0, .ref aX), (1, .int (nI f)), (2, .int (nI v))]) rfl ?_
  intro p e s m args below meth c K
  refine z_aload_n K 0 dX2_isBanned_0 rfl ?_
  refine z_iload_n K 1 dX2_isBanned_1 rfl ?_
  refine z_callV (ws' := [(aX, .inr (2, [.ref aB, .ref aL, .ref aT, .int se])), (aB, .inr (0, [.int (nI n), .ref aB0, .ref aB1, .ref aB2, .ref aB3, .ref aB4, .ref aB5])), (aB0, .inl (cI, 20, .inl fm)), (aB1, .inl (cI, 20, .inl fb)), (aL, .inr (1, [.ref aL0, .ref aL1, .ref aL2, .ref aL3, .ref aL4, .ref aL5, .int hu])), (aL1, .inl (cI, 6, .inl lm)), (aL2, .inl (cI, 6, .inl lb))]) (st' := []) (rest := []) (C := RX2) (T := TX2) (N := 4) K (m_X2_needFable l _ D cI cZ cQ cW aX f aB aL aT se n aB0 aB1 aB2 aB3 aB4 aB5 (by omega) (by omega)) gX2_isBanned_X2_needFable rfl 1 2 (by decide +kernel) rfl dX2_isBanned_2 [0, 1] 0 [] [] rfl rfl rfl ⟨by decide, by decide⟩ ⟨by decide, by decide⟩ rfl rfl rfl rfl rfl (Nat.le_of_ble_eq_true rfl) rfl rfl rfl rfl ?_
  refine z_iload_n K 2 dX2_isBanned_5 rfl ?_
  refine z_callS (ws' := [(aX, .inr (2, [.ref aB, .ref aL, .ref aT, .int se])), (aB, .inr (0, [.int (nI n), .ref aB0, .ref aB1, .ref aB2, .ref aB3, .ref aB4, .ref aB5])), (aB0, .inl (cI, 20, .inl fm)), (aB1, .inl (cI, 20, .inl fb)), (aL, .inr (1, [.ref aL0, .ref aL1, .ref aL2, .ref aL3, .ref aL4, .ref aL5, .int hu])), (aL1, .inl (cI, 6, .inl lm)), (aL2, .inl (cI, 6, .inl lb))]) (st' := []) (rest := []) K (m_X2_needValley l _ D cI cZ cQ cW v (by omega)) gX2_isBanned_X2_needValley rfl 1 (by decide +kernel) dX2_isBanned_6 [] [] [] rfl rfl rfl ⟨by decide, by decide⟩ ⟨by decide, by decide⟩ rfl rfl rfl rfl (Nat.le_of_ble_eq_true rfl) rfl rfl rfl rfl ?_
  refine z_aload_n K 0 dX2_isBanned_9 rfl ?_
  refine z_get (C := RX2) (T := TX2) (N := 4) (ci := 2) K iX2 rfl 0 rfl 1 (by decide) (by decide +kernel) rfl rfl dX2_isBanned_10 ?_
  refine z_aload_n K 0 dX2_isBanned_13 rfl ?_
  refine z_get (C := RX2) (T := TX2) (N := 4) (ci := 2) K iX2 rfl 0 rfl 0 (by decide) (by decide +kernel) rfl rfl dX2_isBanned_14 ?_
  refine z_iload_n K 1 dX2_isBanned_17 rfl ?_
  refine z_iload_n K 2 dX2_isBanned_18 rfl ?_
  refine z_callV (ws' := [(aX, .inr (2, [.ref aB, .ref aL, .ref aT, .int se])), (aB, .inr (0, [.int (nI n), .ref aB0, .ref aB1, .ref aB2, .ref aB3, .ref aB4, .ref aB5])), (aB0, .inl (cI, 20, .inl fm)), (aB1, .inl (cI, 20, .inl fb)), (aL, .inr (1, [.ref aL0, .ref aL1, .ref aL2, .ref aL3, .ref aL4, .ref aL5, .int hu])), (aL1, .inl (cI, 6, .inl lm)), (aL2, .inl (cI, 6, .inl lb))]) (st' := [.int (z_b (ban lm lb fm fb f v))]) (rest := []) (C := RX1) (T := TX1) (N := 7) K (m_X1_bans l _ D cI cZ cQ cW aL aB f v aL0 aL1 aL2 aL3 aL4 aL5 hu lm lb n aB0 aB1 aB2 aB3 aB4 aB5 fm fb (by omega) (by omega)) gX2_isBanned_X1_bans rfl 3 1 (by decide +kernel) rfl dX2_isBanned_19 [4, 5, 6, 1, 2, 3] 4 [] [] rfl rfl rfl ⟨by decide, by decide⟩ ⟨by decide, by decide⟩ rfl rfl rfl rfl rfl (Nat.le_of_ble_eq_true rfl) rfl rfl rfl rfl ?_
  exact z_zret K dX2_isBanned_22 (rfl) [] rfl (by decide) (by decide)

set_option maxRecDepth 100000 in
set_option maxHeartbeats 4000000 in
theorem m_X2_toldIn (l : Launch) (G : Nat → Prop) (D : va_G) (cI cZ cQ cW : ClassId) (aX : Nat) (v : Nat) (aB : Nat) (aL : Nat) (aT : Nat) (se : Int32) (aL0 : Nat) (aL1 : Nat) (aL2 : Nat) (aL3 : Nat) (aL4 : Nat) (aL5 : Nat) (hu : Int32) (lt : Nat → Int32) (hv : v < 6) : z_M l yX2_toldIn wsX2_toldIn { frames := 2, cells := 0, slots := 0, locals := 40 } G D [(cI, .int), (cZ, .boolean), (cQ, .array .int), (cW, .array .boolean)] [.ref aX, .int (nI v)] ([(aX, .inr (2, [.ref aB, .ref aL, .ref aT, .int se])), (aL, .inr (1, [.ref aL0, .ref aL1, .ref aL2, .ref aL3, .ref aL4, .ref aL5, .int hu])), (aL3, .inl (cI, 6, .inl lt))]) (some (.int (pc (lt v)))) [] 0 0 := by
  have iX2 : ∀ w ∈ u_ws RX2 TX2 4, w ∈ wsX2_toldIn := fun w h => List.mem_cons_of_mem _ (List.mem_append_left _ (List.mem_append_left _ (List.mem_append_right _ h)))
  have iX1 : ∀ w ∈ u_ws RX1 TX1 7, w ∈ wsX2_toldIn := fun w h => List.mem_cons_of_mem _ (List.mem_append_left _ (List.mem_append_right _ h))
  refine z_ofW (cc := cX2_toldIn) (nL := 2) (ret := (some .int)) (by decide) rfl (Nat.le_of_ble_eq_true rfl) [] rfl (lv0 := [(0, .ref aX), (1, .int (nI v))]) rfl ?_
  intro p e s m args below meth c K
  refine z_iload_n K 1 dX2_toldIn_0 rfl ?_
  refine z_callS (ws' := [(aX, .inr (2, [.ref aB, .ref aL, .ref aT, .int se])), (aL, .inr (1, [.ref aL0, .ref aL1, .ref aL2, .ref aL3, .ref aL4, .ref aL5, .int hu])), (aL3, .inl (cI, 6, .inl lt))]) (st' := []) (rest := []) K (m_X2_needValley l _ D cI cZ cQ cW v (by omega)) gX2_toldIn_X2_needValley rfl 1 (by decide +kernel) dX2_toldIn_1 [] [] [] rfl rfl rfl ⟨by decide, by decide⟩ ⟨by decide, by decide⟩ rfl rfl rfl rfl (Nat.le_of_ble_eq_true rfl) rfl rfl rfl rfl ?_
  refine z_aload_n K 0 dX2_toldIn_4 rfl ?_
  refine z_get (C := RX2) (T := TX2) (N := 4) (ci := 2) K iX2 rfl 0 rfl 1 (by decide) (by decide +kernel) rfl rfl dX2_toldIn_5 ?_
  refine z_get (C := RX1) (T := TX1) (N := 7) (ci := 1) K iX1 rfl 1 rfl 3 (by decide) (by decide +kernel) rfl rfl dX2_toldIn_8 ?_
  refine z_iload_n K 1 dX2_toldIn_11 rfl ?_
  refine z_ialdN K 2 0 v (by omega) (by omega) rfl rfl dX2_toldIn_12 ?_
  refine z_callS (ws' := [(aX, .inr (2, [.ref aB, .ref aL, .ref aT, .int se])), (aL, .inr (1, [.ref aL0, .ref aL1, .ref aL2, .ref aL3, .ref aL4, .ref aL5, .int hu])), (aL3, .inl (cI, 6, .inl lt))]) (st' := [.int (pc (lt v))]) (rest := []) K (m_X2_size l _ D cI cZ cQ cW (lt v) ) gX2_toldIn_X2_size rfl 1 (by decide +kernel) dX2_toldIn_13 [] [] [] rfl rfl rfl ⟨by decide, by decide⟩ ⟨by decide, by decide⟩ rfl rfl rfl rfl (Nat.le_of_ble_eq_true rfl) rfl rfl rfl rfl ?_
  exact z_iret K dX2_toldIn_16 (rfl) [] rfl (by decide) (by decide)

set_option maxRecDepth 100000 in
set_option maxHeartbeats 4000000 in
theorem m_X2_allowedIn (l : Launch) (G : Nat → Prop) (D : va_G) (cI cZ cQ cW : ClassId) (aX : Nat) (v : Nat) (aB : Nat) (aL : Nat) (aT : Nat) (se : Int32) (n : Nat) (aB0 : Nat) (aB1 : Nat) (aB2 : Nat) (aB3 : Nat) (aB4 : Nat) (aB5 : Nat) (fm : Nat → Int32) (fb : Nat → Int32) (aL0 : Nat) (aL1 : Nat) (aL2 : Nat) (aL3 : Nat) (aL4 : Nat) (aL5 : Nat) (hu : Int32) (lm : Nat → Int32) (lb : Nat → Int32) (hn : n ≤ 20) (hv : v < 6) : z_M l yX2_allowedIn wsX2_allowedIn { frames := 3, cells := 0, slots := 0, locals := 68 } G D [(cI, .int), (cZ, .boolean), (cQ, .array .int), (cW, .array .boolean)] [.ref aX, .int (nI v)] ([(aX, .inr (2, [.ref aB, .ref aL, .ref aT, .int se])), (aB, .inr (0, [.int (nI n), .ref aB0, .ref aB1, .ref aB2, .ref aB3, .ref aB4, .ref aB5])), (aB0, .inl (cI, 20, .inl fm)), (aB1, .inl (cI, 20, .inl fb)), (aL, .inr (1, [.ref aL0, .ref aL1, .ref aL2, .ref aL3, .ref aL4, .ref aL5, .int hu])), (aL1, .inl (cI, 6, .inl lm)), (aL2, .inl (cI, 6, .inl lb))]) (some (.int (pc (welS lm lb fm fb v n)))) [] 0 0 := by
  have iX2 : ∀ w ∈ u_ws RX2 TX2 4, w ∈ wsX2_allowedIn := fun w h => List.mem_cons_of_mem _ (List.mem_append_left _ (List.mem_append_left _ (List.mem_append_left _ (List.mem_append_right _ h))))
  have iX0 : ∀ w ∈ u_ws RX0 TX0 7, w ∈ wsX2_allowedIn := fun w h => List.mem_cons_of_mem _ (List.mem_append_left _ (List.mem_append_left _ (List.mem_append_right _ h)))
  have iX1 : ∀ w ∈ u_ws RX1 TX1 7, w ∈ wsX2_allowedIn := fun w h => List.mem_cons_of_mem _ (List.mem_append_left _ (List.mem_append_right _ h))
  refine z_ofW (cc := cX2_allowedIn) (nL := 2) (ret := (some .int)) (by decide) rfl (Nat.le_of_ble_eq_true rfl) [] rfl (lv0 := [(0, .ref aX), (1, .int (nI v))]) rfl ?_
  intro p e s m args below meth c K
  refine z_iload_n K 1 dX2_allowedIn_0 rfl ?_
  refine z_callS (ws' := [(aX, .inr (2, [.ref aB, .ref aL, .ref aT, .int se])), (aB, .inr (0, [.int (nI n), .ref aB0, .ref aB1, .ref aB2, .ref aB3, .ref aB4, .ref aB5])), (aB0, .inl (cI, 20, .inl fm)), (aB1, .inl (cI, 20, .inl fb)), (aL, .inr (1, [.ref aL0, .ref aL1, .ref aL2, .ref aL3, .ref aL4, .ref aL5, .int hu])), (aL1, .inl (cI, 6, .inl lm)), (aL2, .inl (cI, 6, .inl lb))]) (st' := []) (rest := []) K (m_X2_needValley l _ D cI cZ cQ cW v (by omega)) gX2_allowedIn_X2_needValley rfl 1 (by decide +kernel) dX2_allowedIn_1 [] [] [] rfl rfl rfl ⟨by decide, by decide⟩ ⟨by decide, by decide⟩ rfl rfl rfl rfl (Nat.le_of_ble_eq_true rfl) rfl rfl rfl rfl ?_
  refine z_aload_n K 0 dX2_allowedIn_4 rfl ?_
  refine z_get (C := RX2) (T := TX2) (N := 4) (ci := 2) K iX2 rfl 0 rfl 1 (by decide) (by decide +kernel) rfl rfl dX2_allowedIn_5 ?_
  refine z_aload_n K 0 dX2_allowedIn_8 rfl ?_
  refine z_get (C := RX2) (T := TX2) (N := 4) (ci := 2) K iX2 rfl 0 rfl 0 (by decide) (by decide +kernel) rfl rfl dX2_allowedIn_9 ?_
  refine z_iload_n K 1 dX2_allowedIn_12 rfl ?_
  refine z_callV (ws' := [(aX, .inr (2, [.ref aB, .ref aL, .ref aT, .int se])), (aB, .inr (0, [.int (nI n), .ref aB0, .ref aB1, .ref aB2, .ref aB3, .ref aB4, .ref aB5])), (aB0, .inl (cI, 20, .inl fm)), (aB1, .inl (cI, 20, .inl fb)), (aL, .inr (1, [.ref aL0, .ref aL1, .ref aL2, .ref aL3, .ref aL4, .ref aL5, .int hu])), (aL1, .inl (cI, 6, .inl lm)), (aL2, .inl (cI, 6, .inl lb))]) (st' := [.int (welS lm lb fm fb v n)]) (rest := []) (C := RX1) (T := TX1) (N := 7) K (m_X1_welcome l _ D cI cZ cQ cW aL aB v aL0 aL1 aL2 aL3 aL4 aL5 hu lm lb n aB0 aB1 aB2 aB3 aB4 aB5 fm fb (by omega) (by omega)) gX2_allowedIn_X1_welcome rfl 2 1 (by decide +kernel) rfl dX2_allowedIn_13 [4, 5, 6, 1, 2, 3] 4 [] [] rfl rfl rfl ⟨by decide, by decide⟩ ⟨by decide, by decide⟩ rfl rfl rfl rfl rfl (Nat.le_of_ble_eq_true rfl) rfl rfl rfl rfl ?_
  refine z_callS (ws' := [(aX, .inr (2, [.ref aB, .ref aL, .ref aT, .int se])), (aB, .inr (0, [.int (nI n), .ref aB0, .ref aB1, .ref aB2, .ref aB3, .ref aB4, .ref aB5])), (aB0, .inl (cI, 20, .inl fm)), (aB1, .inl (cI, 20, .inl fb)), (aL, .inr (1, [.ref aL0, .ref aL1, .ref aL2, .ref aL3, .ref aL4, .ref aL5, .int hu])), (aL1, .inl (cI, 6, .inl lm)), (aL2, .inl (cI, 6, .inl lb))]) (st' := [.int (pc (welS lm lb fm fb v n))]) (rest := []) K (m_X2_size l _ D cI cZ cQ cW (welS lm lb fm fb v n) ) gX2_allowedIn_X2_size rfl 1 (by decide +kernel) dX2_allowedIn_16 [] [] [] rfl rfl rfl ⟨by decide, by decide⟩ ⟨by decide, by decide⟩ rfl rfl rfl rfl (Nat.le_of_ble_eq_true rfl) rfl rfl rfl rfl ?_
  exact z_iret K dX2_allowedIn_19 (rfl) [] rfl (by decide) (by decide)

set_option maxRecDepth 100000 in
set_option maxHeartbeats 4000000 in
theorem m_X2_bansOf (l : Launch) (G : Nat → Prop) (D : va_G) (cI cZ cQ cW : ClassId) (aX : Nat) (v : Nat) (aB : Nat) (aL : Nat) (aT : Nat) (se : Int32) (aL0 : Nat) (aL1 : Nat) (aL2 : Nat) (aL3 : Nat) (aL4 : Nat) (aL5 : Nat) (hu : Int32) (lm : Nat → Int32) (lb : Nat → Int32) (hv : v < 6) : z_M l yX2_bansOf wsX2_bansOf { frames := 2, cells := 0, slots := 0, locals := 40 } G D [(cI, .int), (cZ, .boolean), (cQ, .array .int), (cW, .array .boolean)] [.ref aX, .int (nI v)] ([(aX, .inr (2, [.ref aB, .ref aL, .ref aT, .int se])), (aL, .inr (1, [.ref aL0, .ref aL1, .ref aL2, .ref aL3, .ref aL4, .ref aL5, .int hu])), (aL1, .inl (cI, 6, .inl lm)), (aL2, .inl (cI, 6, .inl lb))]) (some (.int ((pc (lm v)) + (pc (lb v))))) [] 0 0 := by
  have iX2 : ∀ w ∈ u_ws RX2 TX2 4, w ∈ wsX2_bansOf := fun w h => List.mem_cons_of_mem _ (List.mem_append_left _ (List.mem_append_left _ (List.mem_append_right _ h)))
  have iX1 : ∀ w ∈ u_ws RX1 TX1 7, w ∈ wsX2_bansOf := fun w h => List.mem_cons_of_mem _ (List.mem_append_left _ (List.mem_append_right _ h))
  refine z_ofW (cc := cX2_bansOf) (nL := 2) (ret := (some .int)) (by decide) rfl (Nat.le_of_ble_eq_true rfl) [] rfl (lv0 := [(0, .ref aX), (1, .int (nI v))]) rfl ?_
  intro p e s m args below meth c K
  refine z_iload_n K 1 dX2_bansOf_0 rfl ?_
  refine z_callS (ws' := [(aX, .inr (2, [.ref aB, .ref aL, .ref aT, .int se])), (aL, .inr (1, [.ref aL0, .ref aL1, .ref aL2, .ref aL3, .ref aL4, .ref aL5, .int hu])), (aL1, .inl (cI, 6, .inl lm)), (aL2, .inl (cI, 6, .inl lb))]) (st' := []) (rest := []) K (m_X2_needValley l _ D cI cZ cQ cW v (by omega)) gX2_bansOf_X2_needValley rfl 1 (by decide +kernel) dX2_bansOf_1 [] [] [] rfl rfl rfl ⟨by decide, by decide⟩ ⟨by decide, by decide⟩ rfl rfl rfl rfl (Nat.le_of_ble_eq_true rfl) rfl rfl rfl rfl ?_
  refine z_aload_n K 0 dX2_bansOf_4 rfl ?_
  refine z_get (C := RX2) (T := TX2) (N := 4) (ci := 2) K iX2 rfl 0 rfl 1 (by decide) (by decide +kernel) rfl rfl dX2_bansOf_5 ?_
  refine z_get (C := RX1) (T := TX1) (N := 7) (ci := 1) K iX1 rfl 1 rfl 1 (by decide) (by decide +kernel) rfl rfl dX2_bansOf_8 ?_
  refine z_iload_n K 1 dX2_bansOf_11 rfl ?_
  refine z_ialdN K 2 0 v (by omega) (by omega) rfl rfl dX2_bansOf_12 ?_
  refine z_callS (ws' := [(aX, .inr (2, [.ref aB, .ref aL, .ref aT, .int se])), (aL, .inr (1, [.ref aL0, .ref aL1, .ref aL2, .ref aL3, .ref aL4, .ref aL5, .int hu])), (aL1, .inl (cI, 6, .inl lm)), (aL2, .inl (cI, 6, .inl lb))]) (st' := [.int (pc (lm v))]) (rest := []) K (m_X2_size l _ D cI cZ cQ cW (lm v) ) gX2_bansOf_X2_size rfl 1 (by decide +kernel) dX2_bansOf_13 [] [] [] rfl rfl rfl ⟨by decide, by decide⟩ ⟨by decide, by decide⟩ rfl rfl rfl rfl (Nat.le_of_ble_eq_true rfl) rfl rfl rfl rfl ?_
  refine z_aload_n K 0 dX2_bansOf_16 rfl ?_
  refine z_get (C := RX2) (T := TX2) (N := 4) (ci := 2) K iX2 rfl 0 rfl 1 (by decide) (by decide +kernel) rfl rfl dX2_bansOf_17 ?_
  refine z_get (C := RX1) (T := TX1) (N := 7) (ci := 1) K iX1 rfl 1 rfl 2 (by decide) (by decide +kernel) rfl rfl dX2_bansOf_20 ?_
  refine z_iload_n K 1 dX2_bansOf_23 rfl ?_
  refine z_ialdN K 3 0 v (by omega) (by omega) rfl rfl dX2_bansOf_24 ?_
  refine z_callS (ws' := [(aX, .inr (2, [.ref aB, .ref aL, .ref aT, .int se])), (aL, .inr (1, [.ref aL0, .ref aL1, .ref aL2, .ref aL3, .ref aL4, .ref aL5, .int hu])), (aL1, .inl (cI, 6, .inl lm)), (aL2, .inl (cI, 6, .inl lb))]) (st' := [.int (pc (lb v)), .int (pc (lm v))]) (rest := [.int (pc (lm v))]) K (m_X2_size l _ D cI cZ cQ cW (lb v) ) gX2_bansOf_X2_size rfl 1 (by decide +kernel) dX2_bansOf_25 [] [] [] rfl rfl rfl ⟨by decide, by decide⟩ ⟨by decide, by decide⟩ rfl rfl rfl rfl (Nat.le_of_ble_eq_true rfl) rfl rfl rfl rfl ?_
  refine z_iadd K dX2_bansOf_28 ?_
  exact z_iret K dX2_bansOf_29 (rfl) [] rfl (by decide) (by decide)

set_option maxRecDepth 100000 in
set_option maxHeartbeats 4000000 in
theorem m_X2_isOpen (l : Launch) (G : Nat → Prop) (D : va_G) (cI cZ cQ cW : ClassId) (aX : Nat) (v : Nat) (o : Nat) (aB : Nat) (aL : Nat) (aT : Nat) (se : Int32) (aL0 : Nat) (aL1 : Nat) (aL2 : Nat) (aL3 : Nat) (aL4 : Nat) (aL5 : Nat) (hu : Int32) (lw : Nat → Int32) (hv : v < 6) (ho : o < 6) : z_M l yX2_isOpen wsX2_isOpen { frames := 1, cells := 0, slots := 0, locals := 21 } G D [(cI, .int), (cZ, .boolean), (cQ, .array .int), (cW, .array .boolean)] [.ref aX, .int (nI v), .int (nI o)] ([(aX, .inr (2, [.ref aB, .ref aL, .ref aT, .int se])), (aL, .inr (1, [.ref aL0, .ref aL1, .ref aL2, .ref aL3, .ref aL4, .ref aL5, .int hu])), (aL0, .inl (cI, 6, .inl lw))]) (some (.int (z_b (hs (lw v) (nI o))))) [] 0 0 := by
  have iX2 : ∀ w ∈ u_ws RX2 TX2 4, w ∈ wsX2_isOpen := fun w h => List.mem_cons_of_mem _ (List.mem_append_left _ (List.mem_append_left _ (List.mem_append_right _ h)))
  have iX1 : ∀ w ∈ u_ws RX1 TX1 7, w ∈ wsX2_isOpen := fun w h => List.mem_cons_of_mem _ (List.mem_append_left _ (List.mem_append_right _ h))
  refine z_ofW (cc := cX2_isOpen) (nL := 3) (ret := (some .boolean)) (by decide) rfl (Nat.le_of_ble_eq_true rfl) [] rfl (lv0 := [(0, .ref aX), (1, .int (nI v)), (2, .int (nI o))]) rfl ?_
  intro p e s m args below meth c K
  refine z_iload_n K 1 dX2_isOpen_0 rfl ?_
  refine z_callS (ws' := [(aX, .inr (2, [.ref aB, .ref aL, .ref aT, .int se])), (aL, .inr (1, [.ref aL0, .ref aL1, .ref aL2, .ref aL3, .ref aL4, .ref aL5, .int hu])), (aL0, .inl (cI, 6, .inl lw))]) (st' := []) (rest := []) K (m_X2_needValley l _ D cI cZ cQ cW v (by omega)) gX2_isOpen_X2_needValley rfl 1 (by decide +kernel) dX2_isOpen_1 [] [] [] rfl rfl rfl ⟨by decide, by decide⟩ ⟨by decide, by decide⟩ rfl rfl rfl rfl (Nat.le_of_ble_eq_true rfl) rfl rfl rfl rfl ?_
  refine z_iload_n K 2 dX2_isOpen_4 rfl ?_
  refine z_callS (ws' := [(aX, .inr (2, [.ref aB, .ref aL, .ref aT, .int se])), (aL, .inr (1, [.ref aL0, .ref aL1, .ref aL2, .ref aL3, .ref aL4, .ref aL5, .int hu])), (aL0, .inl (cI, 6, .inl lw))]) (st' := []) (rest := []) K (m_X2_needValley l _ D cI cZ cQ cW o (by omega)) gX2_isOpen_X2_needValley rfl 1 (by decide +kernel) dX2_isOpen_5 [] [] [] rfl rfl rfl ⟨by decide, by decide⟩ ⟨by decide, by decide⟩ rfl rfl rfl rfl (Nat.le_of_ble_eq_true rfl) rfl rfl rfl rfl ?_
  refine z_aload_n K 0 dX2_isOpen_8 rfl ?_
  refine z_get (C := RX2) (T := TX2) (N := 4) (ci := 2) K iX2 rfl 0 rfl 1 (by decide) (by decide +kernel) rfl rfl dX2_isOpen_9 ?_
  refine z_get (C := RX1) (T := TX1) (N := 7) (ci := 1) K iX1 rfl 1 rfl 0 (by decide) (by decide +kernel) rfl rfl dX2_isOpen_12 ?_
  refine z_iload_n K 1 dX2_isOpen_15 rfl ?_
  refine z_ialdN K 2 0 v (by omega) (by omega) rfl rfl dX2_isOpen_16 ?_
  refine z_iload_n K 2 dX2_isOpen_17 rfl ?_
  refine z_callS (ws' := [(aX, .inr (2, [.ref aB, .ref aL, .ref aT, .int se])), (aL, .inr (1, [.ref aL0, .ref aL1, .ref aL2, .ref aL3, .ref aL4, .ref aL5, .int hu])), (aL0, .inl (cI, 6, .inl lw))]) (st' := [.int (z_b (hs (lw v) (nI o)))]) (rest := []) K (m_X2_has l _ D cI cZ cQ cW (lw v) (nI o) ) gX2_isOpen_X2_has rfl 2 (by decide +kernel) dX2_isOpen_18 [] [] [] rfl rfl rfl ⟨by decide, by decide⟩ ⟨by decide, by decide⟩ rfl rfl rfl rfl (Nat.le_of_ble_eq_true rfl) rfl rfl rfl rfl ?_
  exact z_zret K dX2_isOpen_21 (rfl) [] rfl (by decide) (by decide)

set_option maxRecDepth 100000 in
set_option maxHeartbeats 4000000 in
theorem m_X2_kinship (l : Launch) (G : Nat → Prop) (D : va_G) (cI cZ cQ cW : ClassId) (aX : Nat) (f : Nat) (g : Nat) (aB : Nat) (aL : Nat) (aT : Nat) (se : Int32) (n : Nat) (aB0 : Nat) (aB1 : Nat) (aB2 : Nat) (aB3 : Nat) (aB4 : Nat) (aB5 : Nat) (fa : Nat → Int32) (hn : n ≤ 20) (hf : f < n) (hg : g < n) : z_M l yX2_kinship wsX2_kinship { frames := 2, cells := 0, slots := 0, locals := 40 } G D [(cI, .int), (cZ, .boolean), (cQ, .array .int), (cW, .array .boolean)] [.ref aX, .int (nI f), .int (nI g)] ([(aX, .inr (2, [.ref aB, .ref aL, .ref aT, .int se])), (aB, .inr (0, [.int (nI n), .ref aB0, .ref aB1, .ref aB2, .ref aB3, .ref aB4, .ref aB5])), (aB5, .inl (cI, 20, .inl fa))]) (some (.int (kinS (fa f) (fa g)))) [] 0 0 := by
  have iX2 : ∀ w ∈ u_ws RX2 TX2 4, w ∈ wsX2_kinship := fun w h => List.mem_cons_of_mem _ (List.mem_append_left _ (List.mem_append_left _ (List.mem_append_right _ h)))
  have iX0 : ∀ w ∈ u_ws RX0 TX0 7, w ∈ wsX2_kinship := fun w h => List.mem_cons_of_mem _ (List.mem_append_left _ (List.mem_append_right _ h))
  refine z_ofW (cc := cX2_kinship) (nL := 3) (ret := (some .int)) (by decide) rfl (Nat.le_of_ble_eq_true rfl) [] rfl (lv0 := [(0, .ref aX), (1, .int (nI f)), (2, .int (nI g))]) rfl ?_
  intro p e s m args below meth c K
  refine z_aload_n K 0 dX2_kinship_0 rfl ?_
  refine z_iload_n K 1 dX2_kinship_1 rfl ?_
  refine z_callV (ws' := [(aX, .inr (2, [.ref aB, .ref aL, .ref aT, .int se])), (aB, .inr (0, [.int (nI n), .ref aB0, .ref aB1, .ref aB2, .ref aB3, .ref aB4, .ref aB5])), (aB5, .inl (cI, 20, .inl fa))]) (st' := []) (rest := []) (C := RX2) (T := TX2) (N := 4) K (m_X2_needFable l _ D cI cZ cQ cW aX f aB aL aT se n aB0 aB1 aB2 aB3 aB4 aB5 (by omega) (by omega)) gX2_kinship_X2_needFable rfl 1 2 (by decide +kernel) rfl dX2_kinship_2 [0, 1] 0 [] [] rfl rfl rfl ⟨by decide, by decide⟩ ⟨by decide, by decide⟩ rfl rfl rfl rfl rfl (Nat.le_of_ble_eq_true rfl) rfl rfl rfl rfl ?_
  refine z_aload_n K 0 dX2_kinship_5 rfl ?_
  refine z_iload_n K 2 dX2_kinship_6 rfl ?_
  refine z_callV (ws' := [(aX, .inr (2, [.ref aB, .ref aL, .ref aT, .int se])), (aB, .inr (0, [.int (nI n), .ref aB0, .ref aB1, .ref aB2, .ref aB3, .ref aB4, .ref aB5])), (aB5, .inl (cI, 20, .inl fa))]) (st' := []) (rest := []) (C := RX2) (T := TX2) (N := 4) K (m_X2_needFable l _ D cI cZ cQ cW aX g aB aL aT se n aB0 aB1 aB2 aB3 aB4 aB5 (by omega) (by omega)) gX2_kinship_X2_needFable rfl 1 2 (by decide +kernel) rfl dX2_kinship_7 [0, 1] 0 [] [] rfl rfl rfl ⟨by decide, by decide⟩ ⟨by decide, by decide⟩ rfl rfl rfl rfl rfl (Nat.le_of_ble_eq_true rfl) rfl rfl rfl rfl ?_
  refine z_aload_n K 0 dX2_kinship_10 rfl ?_
  refine z_get (C := RX2) (T := TX2) (N := 4) (ci := 2) K iX2 rfl 0 rfl 0 (by decide) (by decide +kernel) rfl rfl dX2_kinship_11 ?_
  refine z_get (C := RX0) (T := TX0) (N := 7) (ci := 0) K iX0 rfl 1 rfl 6 (by decide) (by decide +kernel) rfl rfl dX2_kinship_14 ?_
  refine z_iload_n K 1 dX2_kinship_17 rfl ?_
  refine z_ialdN K 2 0 f (by omega) (by omega) rfl rfl dX2_kinship_18 ?_
  refine z_aload_n K 0 dX2_kinship_19 rfl ?_
  refine z_get (C := RX2) (T := TX2) (N := 4) (ci := 2) K iX2 rfl 0 rfl 0 (by decide) (by decide +kernel) rfl rfl dX2_kinship_20 ?_
  refine z_get (C := RX0) (T := TX0) (N := 7) (ci := 0) K iX0 rfl 1 rfl 6 (by decide) (by decide +kernel) rfl rfl dX2_kinship_23 ?_
  refine z_iload_n K 2 dX2_kinship_26 rfl ?_
  refine z_ialdN K 2 0 g (by omega) (by omega) rfl rfl dX2_kinship_27 ?_
  refine z_iand K dX2_kinship_28 ?_
  refine z_if_ne K 34 dX2_kinship_29 (by decide) (fun c29 => ?_) (fun c29 => ?_)
  · refine z_aload_n K 0 dX2_kinship_34 rfl ?_
    refine z_get (C := RX2) (T := TX2) (N := 4) (ci := 2) K iX2 rfl 0 rfl 0 (by decide) (by decide +kernel) rfl rfl dX2_kinship_35 ?_
    refine z_get (C := RX0) (T := TX0) (N := 7) (ci := 0) K iX0 rfl 1 rfl 6 (by decide) (by decide +kernel) rfl rfl dX2_kinship_38 ?_
    refine z_iload_n K 1 dX2_kinship_41 rfl ?_
    refine z_ialdN K 2 0 f (by omega) (by omega) rfl rfl dX2_kinship_42 ?_
    refine z_aload_n K 0 dX2_kinship_43 rfl ?_
    refine z_get (C := RX2) (T := TX2) (N := 4) (ci := 2) K iX2 rfl 0 rfl 0 (by decide) (by decide +kernel) rfl rfl dX2_kinship_44 ?_
    refine z_get (C := RX0) (T := TX0) (N := 7) (ci := 0) K iX0 rfl 1 rfl 6 (by decide) (by decide +kernel) rfl rfl dX2_kinship_47 ?_
    refine z_iload_n K 2 dX2_kinship_50 rfl ?_
    refine z_ialdN K 2 0 g (by omega) (by omega) rfl rfl dX2_kinship_51 ?_
    refine z_ixor K dX2_kinship_52 ?_
    refine z_callS (ws' := [(aX, .inr (2, [.ref aB, .ref aL, .ref aT, .int se])), (aB, .inr (0, [.int (nI n), .ref aB0, .ref aB1, .ref aB2, .ref aB3, .ref aB4, .ref aB5])), (aB5, .inl (cI, 20, .inl fa))]) (st' := [.int (pc ((fa f) ^^^ (fa g)))]) (rest := []) K (m_X2_size l _ D cI cZ cQ cW ((fa f) ^^^ (fa g)) ) gX2_kinship_X2_size rfl 1 (by decide +kernel) dX2_kinship_53 [] [] [] rfl rfl rfl ⟨by decide, by decide⟩ ⟨by decide, by decide⟩ rfl rfl rfl rfl (Nat.le_of_ble_eq_true rfl) rfl rfl rfl rfl ?_
    exact z_iret K dX2_kinship_56 ((by first | (simp only [kinS, c29, Bool.false_eq_true, if_false, if_true, ↓reduceIte]; done) | rfl | simp [kinS, c29])) [] rfl (by decide) (by decide)
  · refine z_iconst (v := (-1)) K dX2_kinship_32 (by decide) ?_
    exact z_iret K dX2_kinship_33 ((by first | (simp only [kinS, c29, Bool.false_eq_true, if_false, if_true, ↓reduceIte]; done) | rfl | simp [kinS, c29])) [] rfl (by decide) (by decide)

set_option maxRecDepth 100000 in
set_option maxHeartbeats 4000000 in
theorem m_X2_sharedBeasts (l : Launch) (G : Nat → Prop) (D : va_G) (cI cZ cQ cW : ClassId) (aX : Nat) (f : Nat) (g : Nat) (aB : Nat) (aL : Nat) (aT : Nat) (se : Int32) (n : Nat) (aB0 : Nat) (aB1 : Nat) (aB2 : Nat) (aB3 : Nat) (aB4 : Nat) (aB5 : Nat) (fb : Nat → Int32) (hn : n ≤ 20) (hf : f < n) (hg : g < n) : z_M l yX2_sharedBeasts wsX2_sharedBeasts { frames := 2, cells := 0, slots := 0, locals := 40 } G D [(cI, .int), (cZ, .boolean), (cQ, .array .int), (cW, .array .boolean)] [.ref aX, .int (nI f), .int (nI g)] ([(aX, .inr (2, [.ref aB, .ref aL, .ref aT, .int se])), (aB, .inr (0, [.int (nI n), .ref aB0, .ref aB1, .ref aB2, .ref aB3, .ref aB4, .ref aB5])), (aB1, .inl (cI, 20, .inl fb))]) (some (.int (pc ((fb f) &&& (fb g))))) [] 0 0 := by
  have iX2 : ∀ w ∈ u_ws RX2 TX2 4, w ∈ wsX2_sharedBeasts := fun w h => List.mem_cons_of_mem _ (List.mem_append_left _ (List.mem_append_left _ (List.mem_append_right _ h)))
  have iX0 : ∀ w ∈ u_ws RX0 TX0 7, w ∈ wsX2_sharedBeasts := fun w h => List.mem_cons_of_mem _ (List.mem_append_left _ (List.mem_append_right _ h))
  refine z_ofW (cc := cX2_sharedBeasts) (nL := 3) (ret := (some .int)) (by decide) rfl (Nat.le_of_ble_eq_true rfl) [] rfl (lv0 := [(0, .ref aX), (1, .int (nI f)), (2, .int (nI g))]) rfl ?_
  intro p e s m args below meth c K
  refine z_aload_n K 0 dX2_sharedBeasts_0 rfl ?_
  refine z_iload_n K 1 dX2_sharedBeasts_1 rfl ?_
  refine z_callV (ws' := [(aX, .inr (2, [.ref aB, .ref aL, .ref aT, .int se])), (aB, .inr (0, [.int (nI n), .ref aB0, .ref aB1, .ref aB2, .ref aB3, .ref aB4, .ref aB5])), (aB1, .inl (cI, 20, .inl fb))]) (st' := []) (rest := []) (C := RX2) (T := TX2) (N := 4) K (m_X2_needFable l _ D cI cZ cQ cW aX f aB aL aT se n aB0 aB1 aB2 aB3 aB4 aB5 (by omega) (by omega)) gX2_sharedBeasts_X2_needFable rfl 1 2 (by decide +kernel) rfl dX2_sharedBeasts_2 [0, 1] 0 [] [] rfl rfl rfl ⟨by decide, by decide⟩ ⟨by decide, by decide⟩ rfl rfl rfl rfl rfl (Nat.le_of_ble_eq_true rfl) rfl rfl rfl rfl ?_
  refine z_aload_n K 0 dX2_sharedBeasts_5 rfl ?_
  refine z_iload_n K 2 dX2_sharedBeasts_6 rfl ?_
  refine z_callV (ws' := [(aX, .inr (2, [.ref aB, .ref aL, .ref aT, .int se])), (aB, .inr (0, [.int (nI n), .ref aB0, .ref aB1, .ref aB2, .ref aB3, .ref aB4, .ref aB5])), (aB1, .inl (cI, 20, .inl fb))]) (st' := []) (rest := []) (C := RX2) (T := TX2) (N := 4) K (m_X2_needFable l _ D cI cZ cQ cW aX g aB aL aT se n aB0 aB1 aB2 aB3 aB4 aB5 (by omega) (by omega)) gX2_sharedBeasts_X2_needFable rfl 1 2 (by decide +kernel) rfl dX2_sharedBeasts_7 [0, 1] 0 [] [] rfl rfl rfl ⟨by decide, by decide⟩ ⟨by decide, by decide⟩ rfl rfl rfl rfl rfl (Nat.le_of_ble_eq_true rfl) rfl rfl rfl rfl ?_
  refine z_aload_n K 0 dX2_sharedBeasts_10 rfl ?_
  refine z_get (C := RX2) (T := TX2) (N := 4) (ci := 2) K iX2 rfl 0 rfl 0 (by decide) (by decide +kernel) rfl rfl dX2_sharedBeasts_11 ?_
  refine z_get (C := RX0) (T := TX0) (N := 7) (ci := 0) K iX0 rfl 1 rfl 2 (by decide) (by decide +kernel) rfl rfl dX2_sharedBeasts_14 ?_
  refine z_iload_n K 1 dX2_sharedBeasts_17 rfl ?_
  refine z_ialdN K 2 0 f (by omega) (by omega) rfl rfl dX2_sharedBeasts_18 ?_
  refine z_aload_n K 0 dX2_sharedBeasts_19 rfl ?_
  refine z_get (C := RX2) (T := TX2) (N := 4) (ci := 2) K iX2 rfl 0 rfl 0 (by decide) (by decide +kernel) rfl rfl dX2_sharedBeasts_20 ?_
  refine z_get (C := RX0) (T := TX0) (N := 7) (ci := 0) K iX0 rfl 1 rfl 2 (by decide) (by decide +kernel) rfl rfl dX2_sharedBeasts_23 ?_
  refine z_iload_n K 2 dX2_sharedBeasts_26 rfl ?_
  refine z_ialdN K 2 0 g (by omega) (by omega) rfl rfl dX2_sharedBeasts_27 ?_
  refine z_iand K dX2_sharedBeasts_28 ?_
  refine z_callS (ws' := [(aX, .inr (2, [.ref aB, .ref aL, .ref aT, .int se])), (aB, .inr (0, [.int (nI n), .ref aB0, .ref aB1, .ref aB2, .ref aB3, .ref aB4, .ref aB5])), (aB1, .inl (cI, 20, .inl fb))]) (st' := [.int (pc ((fb f) &&& (fb g)))]) (rest := []) K (m_X2_size l _ D cI cZ cQ cW ((fb f) &&& (fb g)) ) gX2_sharedBeasts_X2_size rfl 1 (by decide +kernel) dX2_sharedBeasts_29 [] [] [] rfl rfl rfl ⟨by decide, by decide⟩ ⟨by decide, by decide⟩ rfl rfl rfl rfl (Nat.le_of_ble_eq_true rfl) rfl rfl rfl rfl ?_
  exact z_iret K dX2_sharedBeasts_32 (rfl) [] rfl (by decide) (by decide)

set_option maxRecDepth 100000 in
set_option maxHeartbeats 4000000 in
theorem m_X2_fables (l : Launch) (G : Nat → Prop) (D : va_G) (cI cZ cQ cW : ClassId) (aX : Nat) (aB : Nat) (aL : Nat) (aT : Nat) (se : Int32) (n : Nat) (aB0 : Nat) (aB1 : Nat) (aB2 : Nat) (aB3 : Nat) (aB4 : Nat) (aB5 : Nat)  : z_M l yX2_fables wsX2_fables { frames := 0, cells := 0, slots := 0, locals := 0 } G D [(cI, .int), (cZ, .boolean), (cQ, .array .int), (cW, .array .boolean)] [.ref aX] ([(aX, .inr (2, [.ref aB, .ref aL, .ref aT, .int se])), (aB, .inr (0, [.int (nI n), .ref aB0, .ref aB1, .ref aB2, .ref aB3, .ref aB4, .ref aB5]))]) (some (.int (nI n))) [] 0 0 := by
  have iX2 : ∀ w ∈ u_ws RX2 TX2 4, w ∈ wsX2_fables := fun w h => List.mem_cons_of_mem _ (List.mem_append_left _ (List.mem_append_right _ h))
  have iX0 : ∀ w ∈ u_ws RX0 TX0 7, w ∈ wsX2_fables := fun w h => List.mem_cons_of_mem _ (List.mem_append_right _ h)
  refine z_ofW (cc := cX2_fables) (nL := 1) (ret := (some .int)) (by decide) rfl (Nat.le_of_ble_eq_true rfl) [] rfl (lv0 := [(0, .ref aX)]) rfl ?_
  intro p e s m args below meth c K
  refine z_aload_n K 0 dX2_fables_0 rfl ?_
  refine z_get (C := RX2) (T := TX2) (N := 4) (ci := 2) K iX2 rfl 0 rfl 0 (by decide) (by decide +kernel) rfl rfl dX2_fables_1 ?_
  refine z_get (C := RX0) (T := TX0) (N := 7) (ci := 0) K iX0 rfl 1 rfl 0 (by decide) (by decide +kernel) rfl rfl dX2_fables_4 ?_
  exact z_iret K dX2_fables_7 (rfl) [] rfl (by decide) (by decide)

set_option maxRecDepth 100000 in
set_option maxHeartbeats 4000000 in
theorem m_X2_season (l : Launch) (G : Nat → Prop) (D : va_G) (cI cZ cQ cW : ClassId) (aX : Nat) (aB : Nat) (aL : Nat) (aT : Nat) (se : Int32)  : z_M l yX2_season wsX2_season { frames := 0, cells := 0, slots := 0, locals := 0 } G D [(cI, .int), (cZ, .boolean), (cQ, .array .int), (cW, .array .boolean)] [.ref aX] ([(aX, .inr (2, [.ref aB, .ref aL, .ref aT, .int se]))]) (some (.int se)) [] 0 0 := by
  have iX2 : ∀ w ∈ u_ws RX2 TX2 4, w ∈ wsX2_season := fun w h => List.mem_cons_of_mem _ (List.mem_append_right _ h)
  refine z_ofW (cc := cX2_season) (nL := 1) (ret := (some .int)) (by decide) rfl (Nat.le_of_ble_eq_true rfl) [] rfl (lv0 := [(0, .ref aX)]) rfl ?_
  intro p e s m args below meth c K
  refine z_aload_n K 0 dX2_season_0 rfl ?_
  refine z_get (C := RX2) (T := TX2) (N := 4) (ci := 2) K iX2 rfl 0 rfl 3 (by decide) (by decide +kernel) rfl rfl dX2_season_1 ?_
  exact z_iret K dX2_season_4 (rfl) [] rfl (by decide) (by decide)

set_option maxRecDepth 100000 in
set_option maxHeartbeats 4000000 in
theorem m_X2_tellings (l : Launch) (G : Nat → Prop) (D : va_G) (cI cZ cQ cW : ClassId) (aX : Nat) (aB : Nat) (aL : Nat) (aT : Nat) (se : Int32) (n : Nat) (aB0 : Nat) (aB1 : Nat) (aB2 : Nat) (aB3 : Nat) (aB4 : Nat) (aB5 : Nat) (aL0 : Nat) (aL1 : Nat) (aL2 : Nat) (aL3 : Nat) (aL4 : Nat) (aL5 : Nat) (hu : Int32) (lt : Nat → Int32)  : z_M l yX2_tellings wsX2_tellings { frames := 3, cells := 0, slots := 0, locals := 63 } G D [(cI, .int), (cZ, .boolean), (cQ, .array .int), (cW, .array .boolean)] [.ref aX] ([(aX, .inr (2, [.ref aB, .ref aL, .ref aT, .int se])), (aB, .inr (0, [.int (nI n), .ref aB0, .ref aB1, .ref aB2, .ref aB3, .ref aB4, .ref aB5])), (aL, .inr (1, [.ref aL0, .ref aL1, .ref aL2, .ref aL3, .ref aL4, .ref aL5, .int hu])), (aL3, .inl (cI, 6, .inl lt))]) (some (.int (cntS lt (allS n) 6))) [] 0 0 := by
  have iX2 : ∀ w ∈ u_ws RX2 TX2 4, w ∈ wsX2_tellings := fun w h => List.mem_cons_of_mem _ (List.mem_append_left _ (List.mem_append_left _ (List.mem_append_right _ h)))
  have iX0 : ∀ w ∈ u_ws RX0 TX0 7, w ∈ wsX2_tellings := fun w h => List.mem_cons_of_mem _ (List.mem_append_left _ (List.mem_append_right _ h))
  have iX1 : ∀ w ∈ u_ws RX1 TX1 7, w ∈ wsX2_tellings := fun w h => List.mem_cons_of_mem _ (List.mem_append_right _ h)
  refine z_ofW (cc := cX2_tellings) (nL := 1) (ret := (some .int)) (by decide) rfl (Nat.le_of_ble_eq_true rfl) [] rfl (lv0 := [(0, .ref aX)]) rfl ?_
  intro p e s m args below meth c K
  refine z_aload_n K 0 dX2_tellings_0 rfl ?_
  refine z_get (C := RX2) (T := TX2) (N := 4) (ci := 2) K iX2 rfl 0 rfl 1 (by decide) (by decide +kernel) rfl rfl dX2_tellings_1 ?_
  refine z_aload_n K 0 dX2_tellings_4 rfl ?_
  refine z_get (C := RX2) (T := TX2) (N := 4) (ci := 2) K iX2 rfl 0 rfl 0 (by decide) (by decide +kernel) rfl rfl dX2_tellings_5 ?_
  refine z_callV (ws' := [(aX, .inr (2, [.ref aB, .ref aL, .ref aT, .int se])), (aB, .inr (0, [.int (nI n), .ref aB0, .ref aB1, .ref aB2, .ref aB3, .ref aB4, .ref aB5])), (aL, .inr (1, [.ref aL0, .ref aL1, .ref aL2, .ref aL3, .ref aL4, .ref aL5, .int hu])), (aL3, .inl (cI, 6, .inl lt))]) (st' := [.int (allS n), .ref aL]) (rest := [.ref aL]) (C := RX0) (T := TX0) (N := 7) K (m_X0_all l _ D cI cZ cQ cW aB n aB0 aB1 aB2 aB3 aB4 aB5 ) gX2_tellings_X0_all rfl 0 0 (by decide +kernel) rfl dX2_tellings_8 [1] 1 [] [] rfl rfl rfl ⟨by decide, by decide⟩ ⟨by decide, by decide⟩ rfl rfl rfl rfl rfl (Nat.le_of_ble_eq_true rfl) rfl rfl rfl rfl ?_
  refine z_callV (ws' := [(aX, .inr (2, [.ref aB, .ref aL, .ref aT, .int se])), (aB, .inr (0, [.int (nI n), .ref aB0, .ref aB1, .ref aB2, .ref aB3, .ref aB4, .ref aB5])), (aL, .inr (1, [.ref aL0, .ref aL1, .ref aL2, .ref aL3, .ref aL4, .ref aL5, .int hu])), (aL3, .inl (cI, 6, .inl lt))]) (st' := [.int (cntS lt (allS n) 6)]) (rest := []) (C := RX1) (T := TX1) (N := 7) K (m_X1_count l _ D cI cZ cQ cW aL (allS n) aL0 aL1 aL2 aL3 aL4 aL5 hu lt ) gX2_tellings_X1_count rfl 1 1 (by decide +kernel) rfl dX2_tellings_11 [2, 3] 2 [] [] rfl rfl rfl ⟨by decide, by decide⟩ ⟨by decide, by decide⟩ rfl rfl rfl rfl rfl (Nat.le_of_ble_eq_true rfl) rfl rfl rfl rfl ?_
  exact z_iret K dX2_tellings_14 (rfl) [] rfl (by decide) (by decide)

set_option maxRecDepth 100000 in
set_option maxHeartbeats 4000000 in
theorem m_X2_silenced (l : Launch) (G : Nat → Prop) (D : va_G) (cI cZ cQ cW : ClassId) (aX : Nat) (aB : Nat) (aL : Nat) (aT : Nat) (se : Int32) (aL0 : Nat) (aL1 : Nat) (aL2 : Nat) (aL3 : Nat) (aL4 : Nat) (aL5 : Nat) (hu : Int32)  : z_M l yX2_silenced wsX2_silenced { frames := 0, cells := 0, slots := 0, locals := 0 } G D [(cI, .int), (cZ, .boolean), (cQ, .array .int), (cW, .array .boolean)] [.ref aX] ([(aX, .inr (2, [.ref aB, .ref aL, .ref aT, .int se])), (aL, .inr (1, [.ref aL0, .ref aL1, .ref aL2, .ref aL3, .ref aL4, .ref aL5, .int hu]))]) (some (.int hu)) [] 0 0 := by
  have iX2 : ∀ w ∈ u_ws RX2 TX2 4, w ∈ wsX2_silenced := fun w h => List.mem_cons_of_mem _ (List.mem_append_left _ (List.mem_append_right _ h))
  have iX1 : ∀ w ∈ u_ws RX1 TX1 7, w ∈ wsX2_silenced := fun w h => List.mem_cons_of_mem _ (List.mem_append_right _ h)
  refine z_ofW (cc := cX2_silenced) (nL := 1) (ret := (some .int)) (by decide) rfl (Nat.le_of_ble_eq_true rfl) [] rfl (lv0 := [(0, .ref aX)]) rfl ?_
  intro p e s m args below meth c K
  refine z_aload_n K 0 dX2_silenced_0 rfl ?_
  refine z_get (C := RX2) (T := TX2) (N := 4) (ci := 2) K iX2 rfl 0 rfl 1 (by decide) (by decide +kernel) rfl rfl dX2_silenced_1 ?_
  refine z_get (C := RX1) (T := TX1) (N := 7) (ci := 1) K iX1 rfl 1 rfl 6 (by decide) (by decide +kernel) rfl rfl dX2_silenced_4 ?_
  exact z_iret K dX2_silenced_7 (rfl) [] rfl (by decide) (by decide)

set_option maxRecDepth 100000 in
set_option maxHeartbeats 4000000 in
theorem m_X2_fablesWithMoral (l : Launch) (G : Nat → Prop) (D : va_G) (cI cZ cQ cW : ClassId) (aX : Nat) (mo : Nat) (aB : Nat) (aL : Nat) (aT : Nat) (se : Int32) (n : Nat) (aB0 : Nat) (aB1 : Nat) (aB2 : Nat) (aB3 : Nat) (aB4 : Nat) (aB5 : Nat) (fm : Nat → Int32) (hn : n ≤ 20) (hm : mo < 10) : z_M l yX2_fablesWithMoral wsX2_fablesWithMoral { frames := 2, cells := 0, slots := 0, locals := 40 } G D [(cI, .int), (cZ, .boolean), (cQ, .array .int), (cW, .array .boolean)] [.ref aX, .int (nI mo)] ([(aX, .inr (2, [.ref aB, .ref aL, .ref aT, .int se])), (aB, .inr (0, [.int (nI n), .ref aB0, .ref aB1, .ref aB2, .ref aB3, .ref aB4, .ref aB5])), (aB0, .inl (cI, 20, .inl fm))]) (some (.int (pc (wmS fm (nI mo) n)))) [] 0 0 := by
  have iX2 : ∀ w ∈ u_ws RX2 TX2 4, w ∈ wsX2_fablesWithMoral := fun w h => List.mem_cons_of_mem _ (List.mem_append_left _ (List.mem_append_left _ (List.mem_append_right _ h)))
  have iX0 : ∀ w ∈ u_ws RX0 TX0 7, w ∈ wsX2_fablesWithMoral := fun w h => List.mem_cons_of_mem _ (List.mem_append_left _ (List.mem_append_right _ h))
  refine z_ofW (cc := cX2_fablesWithMoral) (nL := 2) (ret := (some .int)) (by decide) rfl (Nat.le_of_ble_eq_true rfl) [] rfl (lv0 := [(0, .ref aX), (1, .int (nI mo))]) rfl ?_
  intro p e s m args below meth c K
  refine z_iload_n K 1 dX2_fablesWithMoral_0 rfl ?_
  refine z_callS (ws' := [(aX, .inr (2, [.ref aB, .ref aL, .ref aT, .int se])), (aB, .inr (0, [.int (nI n), .ref aB0, .ref aB1, .ref aB2, .ref aB3, .ref aB4, .ref aB5])), (aB0, .inl (cI, 20, .inl fm))]) (st' := []) (rest := []) K (m_X2_needMoral l _ D cI cZ cQ cW mo (by omega)) gX2_fablesWithMoral_X2_needMoral rfl 1 (by decide +kernel) dX2_fablesWithMoral_1 [] [] [] rfl rfl rfl ⟨by decide, by decide⟩ ⟨by decide, by decide⟩ rfl rfl rfl rfl (Nat.le_of_ble_eq_true rfl) rfl rfl rfl rfl ?_
  refine z_aload_n K 0 dX2_fablesWithMoral_4 rfl ?_
  refine z_get (C := RX2) (T := TX2) (N := 4) (ci := 2) K iX2 rfl 0 rfl 0 (by decide) (by decide +kernel) rfl rfl dX2_fablesWithMoral_5 ?_
  refine z_iload_n K 1 dX2_fablesWithMoral_8 rfl ?_
  refine z_callV (ws' := [(aX, .inr (2, [.ref aB, .ref aL, .ref aT, .int se])), (aB, .inr (0, [.int (nI n), .ref aB0, .ref aB1, .ref aB2, .ref aB3, .ref aB4, .ref aB5])), (aB0, .inl (cI, 20, .inl fm))]) (st' := [.int (wmS fm (nI mo) n)]) (rest := []) (C := RX0) (T := TX0) (N := 7) K (m_X0_withMoral l _ D cI cZ cQ cW aB (nI mo) n aB0 aB1 aB2 aB3 aB4 aB5 fm (by omega)) gX2_fablesWithMoral_X0_withMoral rfl 1 0 (by decide +kernel) rfl dX2_fablesWithMoral_9 [1, 2] 1 [] [] rfl rfl rfl ⟨by decide, by decide⟩ ⟨by decide, by decide⟩ rfl rfl rfl rfl rfl (Nat.le_of_ble_eq_true rfl) rfl rfl rfl rfl ?_
  refine z_callS (ws' := [(aX, .inr (2, [.ref aB, .ref aL, .ref aT, .int se])), (aB, .inr (0, [.int (nI n), .ref aB0, .ref aB1, .ref aB2, .ref aB3, .ref aB4, .ref aB5])), (aB0, .inl (cI, 20, .inl fm))]) (st' := [.int (pc (wmS fm (nI mo) n))]) (rest := []) K (m_X2_size l _ D cI cZ cQ cW (wmS fm (nI mo) n) ) gX2_fablesWithMoral_X2_size rfl 1 (by decide +kernel) dX2_fablesWithMoral_12 [] [] [] rfl rfl rfl ⟨by decide, by decide⟩ ⟨by decide, by decide⟩ rfl rfl rfl rfl (Nat.le_of_ble_eq_true rfl) rfl rfl rfl rfl ?_
  exact z_iret K dX2_fablesWithMoral_15 (rfl) [] rfl (by decide) (by decide)

set_option maxRecDepth 100000 in
set_option maxHeartbeats 4000000 in
theorem m_X2_fablesWithBeast (l : Launch) (G : Nat → Prop) (D : va_G) (cI cZ cQ cW : ClassId) (aX : Nat) (b : Nat) (aB : Nat) (aL : Nat) (aT : Nat) (se : Int32) (n : Nat) (aB0 : Nat) (aB1 : Nat) (aB2 : Nat) (aB3 : Nat) (aB4 : Nat) (aB5 : Nat) (fb : Nat → Int32) (hn : n ≤ 20) (hb : b < 12) : z_M l yX2_fablesWithBeast wsX2_fablesWithBeast { frames := 2, cells := 0, slots := 0, locals := 44 } G D [(cI, .int), (cZ, .boolean), (cQ, .array .int), (cW, .array .boolean)] [.ref aX, .int (nI b)] ([(aX, .inr (2, [.ref aB, .ref aL, .ref aT, .int se])), (aB, .inr (0, [.int (nI n), .ref aB0, .ref aB1, .ref aB2, .ref aB3, .ref aB4, .ref aB5])), (aB1, .inl (cI, 20, .inl fb))]) (some (.int (pc (wbS fb (nI b) n)))) [] 0 0 := by
  have iX2 : ∀ w ∈ u_ws RX2 TX2 4, w ∈ wsX2_fablesWithBeast := fun w h => List.mem_cons_of_mem _ (List.mem_append_left _ (List.mem_append_left _ (List.mem_append_right _ h)))
  have iX0 : ∀ w ∈ u_ws RX0 TX0 7, w ∈ wsX2_fablesWithBeast := fun w h => List.mem_cons_of_mem _ (List.mem_append_left _ (List.mem_append_right _ h))
  refine z_ofW (cc := cX2_fablesWithBeast) (nL := 2) (ret := (some .int)) (by decide) rfl (Nat.le_of_ble_eq_true rfl) [] rfl (lv0 := [(0, .ref aX), (1, .int (nI b))]) rfl ?_
  intro p e s m args below meth c K
  refine z_iload_n K 1 dX2_fablesWithBeast_0 rfl ?_
  refine z_callS (ws' := [(aX, .inr (2, [.ref aB, .ref aL, .ref aT, .int se])), (aB, .inr (0, [.int (nI n), .ref aB0, .ref aB1, .ref aB2, .ref aB3, .ref aB4, .ref aB5])), (aB1, .inl (cI, 20, .inl fb))]) (st' := []) (rest := []) K (m_X2_needBeast l _ D cI cZ cQ cW b (by omega)) gX2_fablesWithBeast_X2_needBeast rfl 1 (by decide +kernel) dX2_fablesWithBeast_1 [] [] [] rfl rfl rfl ⟨by decide, by decide⟩ ⟨by decide, by decide⟩ rfl rfl rfl rfl (Nat.le_of_ble_eq_true rfl) rfl rfl rfl rfl ?_
  refine z_aload_n K 0 dX2_fablesWithBeast_4 rfl ?_
  refine z_get (C := RX2) (T := TX2) (N := 4) (ci := 2) K iX2 rfl 0 rfl 0 (by decide) (by decide +kernel) rfl rfl dX2_fablesWithBeast_5 ?_
  refine z_iload_n K 1 dX2_fablesWithBeast_8 rfl ?_
  refine z_callV (ws' := [(aX, .inr (2, [.ref aB, .ref aL, .ref aT, .int se])), (aB, .inr (0, [.int (nI n), .ref aB0, .ref aB1, .ref aB2, .ref aB3, .ref aB4, .ref aB5])), (aB1, .inl (cI, 20, .inl fb))]) (st' := [.int (wbS fb (nI b) n)]) (rest := []) (C := RX0) (T := TX0) (N := 7) K (m_X0_withBeast l _ D cI cZ cQ cW aB (nI b) n aB0 aB1 aB2 aB3 aB4 aB5 fb (by omega)) gX2_fablesWithBeast_X0_withBeast rfl 1 0 (by decide +kernel) rfl dX2_fablesWithBeast_9 [1, 2] 1 [] [] rfl rfl rfl ⟨by decide, by decide⟩ ⟨by decide, by decide⟩ rfl rfl rfl rfl rfl (Nat.le_of_ble_eq_true rfl) rfl rfl rfl rfl ?_
  refine z_callS (ws' := [(aX, .inr (2, [.ref aB, .ref aL, .ref aT, .int se])), (aB, .inr (0, [.int (nI n), .ref aB0, .ref aB1, .ref aB2, .ref aB3, .ref aB4, .ref aB5])), (aB1, .inl (cI, 20, .inl fb))]) (st' := [.int (pc (wbS fb (nI b) n))]) (rest := []) K (m_X2_size l _ D cI cZ cQ cW (wbS fb (nI b) n) ) gX2_fablesWithBeast_X2_size rfl 1 (by decide +kernel) dX2_fablesWithBeast_12 [] [] [] rfl rfl rfl ⟨by decide, by decide⟩ ⟨by decide, by decide⟩ rfl rfl rfl rfl (Nat.le_of_ble_eq_true rfl) rfl rfl rfl rfl ?_
  exact z_iret K dX2_fablesWithBeast_15 (rfl) [] rfl (by decide) (by decide)

set_option maxRecDepth 100000 in
set_option maxHeartbeats 4000000 in
theorem m_X2_favouriteMoral (l : Launch) (G : Nat → Prop) (D : va_G) (cI cZ cQ cW : ClassId) (aX : Nat) (aB : Nat) (aL : Nat) (aT : Nat) (se : Int32) (n : Nat) (aB0 : Nat) (aB1 : Nat) (aB2 : Nat) (aB3 : Nat) (aB4 : Nat) (aB5 : Nat) (fm : Nat → Int32) (aL0 : Nat) (aL1 : Nat) (aL2 : Nat) (aL3 : Nat) (aL4 : Nat) (aL5 : Nat) (hu : Int32) (lt : Nat → Int32) (hn : n ≤ 20) : z_M l yX2_favouriteMoral wsX2_favouriteMoral { frames := 3, cells := 0, slots := 0, locals := 63 } G D [(cI, .int), (cZ, .boolean), (cQ, .array .int), (cW, .array .boolean)] [.ref aX] ([(aX, .inr (2, [.ref aB, .ref aL, .ref aT, .int se])), (aB, .inr (0, [.int (nI n), .ref aB0, .ref aB1, .ref aB2, .ref aB3, .ref aB4, .ref aB5])), (aB0, .inl (cI, 20, .inl fm)), (aL, .inr (1, [.ref aL0, .ref aL1, .ref aL2, .ref aL3, .ref aL4, .ref aL5, .int hu])), (aL3, .inl (cI, 6, .inl lt))]) (some (.int ((favM lt fm n 10).1))) [] 0 0 := by
  have iX2 : ∀ w ∈ u_ws RX2 TX2 4, w ∈ wsX2_favouriteMoral := fun w h => List.mem_cons_of_mem _ (List.mem_append_left _ (List.mem_append_left _ (List.mem_append_right _ h)))
  have iX0 : ∀ w ∈ u_ws RX0 TX0 7, w ∈ wsX2_favouriteMoral := fun w h => List.mem_cons_of_mem _ (List.mem_append_left _ (List.mem_append_right _ h))
  have iX1 : ∀ w ∈ u_ws RX1 TX1 7, w ∈ wsX2_favouriteMoral := fun w h => List.mem_cons_of_mem _ (List.mem_append_right _ h)
  refine z_ofW (cc := cX2_favouriteMoral) (nL := 5) (ret := (some .int)) (by decide) rfl (Nat.le_of_ble_eq_true rfl) [] rfl (lv0 := [(0, .ref aX)]) rfl ?_
  intro p e s m args below meth c K
  refine z_iconst (v := (-1)) K dX2_favouriteMoral_0 (by decide) ?_
  refine z_istore_n (lv' := [(1, .int (-1)), (0, .ref aX)]) K dX2_favouriteMoral_1 (by decide) rfl ?_
  refine z_iconst (v := 0) K dX2_favouriteMoral_2 (by decide) ?_
  refine z_istore_n (lv' := [(2, .int 0), (1, .int (-1)), (0, .ref aX)]) K dX2_favouriteMoral_3 (by decide) rfl ?_
  refine z_iconst (v := 0) K dX2_favouriteMoral_4 (by decide) ?_
  refine z_istore_n (lv' := [(3, .int 0), (2, .int 0), (1, .int (-1)), (0, .ref aX)]) K dX2_favouriteMoral_5 (by decide) rfl ?_
  refine z_loop (wsf := fun k => [(aX, .inr (2, [.ref aB, .ref aL, .ref aT, .int se])), (aB, .inr (0, [.int (nI n), .ref aB0, .ref aB1, .ref aB2, .ref aB3, .ref aB4, .ref aB5])), (aB0, .inl (cI, 20, .inl fm)), (aL, .inr (1, [.ref aL0, .ref aL1, .ref aL2, .ref aL3, .ref aL4, .ref aL5, .int hu])), (aL3, .inl (cI, 6, .inl lt))]) (lvf := fun k => [(3, .int (nI k)), (2, .int ((favM lt fm n k).2)), (1, .int ((favM lt fm n k).1)), (0, .ref aX)]) 10 rfl rfl ?_ (fun k hk ihk => ?_)
  · refine z_iload_n K 0 dX2_favouriteMoral_6 rfl ?_
    refine z_bipush (v := 10) K dX2_favouriteMoral_7 (by decide) ?_
    refine z_cmpN K 46 10 10 dX2_favouriteMoral_9 (by decide) rfl rfl (by omega) (by omega) (fun _ => ?_) (fun h => absurd h (by omega))
    refine z_iload_n K 2 dX2_favouriteMoral_46 rfl ?_
    exact z_iret K dX2_favouriteMoral_47 (rfl) [] rfl (by decide) (by decide)
  · refine z_iload_n K 0 dX2_favouriteMoral_6 rfl ?_
    refine z_bipush (v := 10) K dX2_favouriteMoral_7 (by decide) ?_
    refine z_cmpN K 46 k 10 dX2_favouriteMoral_9 (by decide) rfl rfl (by omega) (by omega) (fun h => absurd h (by omega)) (fun _ => ?_)
    refine z_aload_n K 3 dX2_favouriteMoral_12 rfl ?_
    refine z_get (C := RX2) (T := TX2) (N := 4) (ci := 2) K iX2 rfl 0 rfl 1 (by decide) (by decide +kernel) rfl rfl dX2_favouriteMoral_13 ?_
    refine z_aload_n K 3 dX2_favouriteMoral_16 rfl ?_
    refine z_get (C := RX2) (T := TX2) (N := 4) (ci := 2) K iX2 rfl 0 rfl 0 (by decide) (by decide +kernel) rfl rfl dX2_favouriteMoral_17 ?_
    refine z_iload_n K 0 dX2_favouriteMoral_20 rfl ?_
    refine z_callV (ws' := [(aX, .inr (2, [.ref aB, .ref aL, .ref aT, .int se])), (aB, .inr (0, [.int (nI n), .ref aB0, .ref aB1, .ref aB2, .ref aB3, .ref aB4, .ref aB5])), (aB0, .inl (cI, 20, .inl fm)), (aL, .inr (1, [.ref aL0, .ref aL1, .ref aL2, .ref aL3, .ref aL4, .ref aL5, .int hu])), (aL3, .inl (cI, 6, .inl lt))]) (st' := [.int (wmS fm (nI k) n), .ref aL]) (rest := [.ref aL]) (C := RX0) (T := TX0) (N := 7) K (m_X0_withMoral l _ D cI cZ cQ cW aB (nI k) n aB0 aB1 aB2 aB3 aB4 aB5 fm (by omega)) gX2_favouriteMoral_X0_withMoral rfl 1 0 (by decide +kernel) rfl dX2_favouriteMoral_21 [1, 2] 1 [] [] rfl rfl rfl ⟨by decide, by decide⟩ ⟨by decide, by decide⟩ rfl rfl rfl rfl rfl (Nat.le_of_ble_eq_true rfl) rfl rfl rfl rfl ?_
    refine z_callV (ws' := [(aX, .inr (2, [.ref aB, .ref aL, .ref aT, .int se])), (aB, .inr (0, [.int (nI n), .ref aB0, .ref aB1, .ref aB2, .ref aB3, .ref aB4, .ref aB5])), (aB0, .inl (cI, 20, .inl fm)), (aL, .inr (1, [.ref aL0, .ref aL1, .ref aL2, .ref aL3, .ref aL4, .ref aL5, .int hu])), (aL3, .inl (cI, 6, .inl lt))]) (st' := [.int (cntS lt (wmS fm (nI k) n) 6)]) (rest := []) (C := RX1) (T := TX1) (N := 7) K (m_X1_count l _ D cI cZ cQ cW aL (wmS fm (nI k) n) aL0 aL1 aL2 aL3 aL4 aL5 hu lt ) gX2_favouriteMoral_X1_count rfl 1 1 (by decide +kernel) rfl dX2_favouriteMoral_24 [3, 4] 3 [] [] rfl rfl rfl ⟨by decide, by decide⟩ ⟨by decide, by decide⟩ rfl rfl rfl rfl rfl (Nat.le_of_ble_eq_true rfl) rfl rfl rfl rfl ?_
    refine z_istore (lv' := [(4, .int (cntS lt (wmS fm (nI k) n) 6)), (3, .int (nI k)), (2, .int ((favM lt fm n k).2)), (1, .int ((favM lt fm n k).1)), (0, .ref aX)]) K dX2_favouriteMoral_27 (by decide) rfl ?_
    refine z_iload K 0 dX2_favouriteMoral_29 rfl ?_
    refine z_iload_n K 2 dX2_favouriteMoral_31 rfl ?_
    refine z_icmp_le K 40 dX2_favouriteMoral_32 (by decide) (fun c32 => ?_) (fun c32 => ?_)
    · refine z_iinc (lv' := [(3, .int (nI (k + 1))), (4, .int (cntS lt (wmS fm (nI k) n) 6)), (2, .int ((favM lt fm n k).2)), (1, .int ((favM lt fm n k).1)), (0, .ref aX)]) (v := nI (k + 1)) K 1 dX2_favouriteMoral_40 rfl (z_inc1 k) (by decide) rfl ?_
      refine z_goto K 6 dX2_favouriteMoral_43 (by decide) ?_
      refine z_lv (lv' := [(3, .int (nI (k + 1))), (2, .int ((favM lt fm n k).2)), (1, .int ((favM lt fm n k).1)), (0, .ref aX)]) [0, 2, 3, 4] rfl ?_
      rw [show ((favM lt fm n (k + 1)).2) = ((favM lt fm n k).2) from (by first | (simp only [favM_succ, c32, Bool.false_eq_true, if_false, if_true, ↓reduceIte]; done) | rfl | simp [favM_succ, c32])] at ihk
      rw [show ((favM lt fm n (k + 1)).1) = ((favM lt fm n k).1) from (by first | (simp only [favM_succ, c32, Bool.false_eq_true, if_false, if_true, ↓reduceIte]; done) | rfl | simp [favM_succ, c32])] at ihk
      exact ihk
    · refine z_iload K 0 dX2_favouriteMoral_35 rfl ?_
      refine z_istore_n (lv' := [(2, .int (cntS lt (wmS fm (nI k) n) 6)), (4, .int (cntS lt (wmS fm (nI k) n) 6)), (3, .int (nI k)), (1, .int ((favM lt fm n k).1)), (0, .ref aX)]) K dX2_favouriteMoral_37 (by decide) rfl ?_
      refine z_iload_n K 2 dX2_favouriteMoral_38 rfl ?_
      refine z_istore_n (lv' := [(1, .int (nI k)), (2, .int (cntS lt (wmS fm (nI k) n) 6)), (4, .int (cntS lt (wmS fm (nI k) n) 6)), (3, .int (nI k)), (0, .ref aX)]) K dX2_favouriteMoral_39 (by decide) rfl ?_
      refine z_iinc (lv' := [(3, .int (nI (k + 1))), (1, .int (nI k)), (2, .int (cntS lt (wmS fm (nI k) n) 6)), (4, .int (cntS lt (wmS fm (nI k) n) 6)), (0, .ref aX)]) (v := nI (k + 1)) K 3 dX2_favouriteMoral_40 rfl (z_inc1 k) (by decide) rfl ?_
      refine z_goto K 6 dX2_favouriteMoral_43 (by decide) ?_
      refine z_lv (lv' := [(3, .int (nI (k + 1))), (2, .int (cntS lt (wmS fm (nI k) n) 6)), (1, .int (nI k)), (0, .ref aX)]) [0, 2, 1, 4] rfl ?_
      rw [show ((favM lt fm n (k + 1)).2) = (cntS lt (wmS fm (nI k) n) 6) from (by first | (simp only [favM_succ, c32, Bool.false_eq_true, if_false, if_true, ↓reduceIte]; done) | rfl | simp [favM_succ, c32])] at ihk
      rw [show ((favM lt fm n (k + 1)).1) = (nI k) from (by first | (simp only [favM_succ, c32, Bool.false_eq_true, if_false, if_true, ↓reduceIte]; done) | rfl | simp [favM_succ, c32])] at ihk
      exact ihk

set_option maxRecDepth 100000 in
set_option maxHeartbeats 4000000 in
theorem m_X2_favouriteBeast (l : Launch) (G : Nat → Prop) (D : va_G) (cI cZ cQ cW : ClassId) (aX : Nat) (aB : Nat) (aL : Nat) (aT : Nat) (se : Int32) (n : Nat) (aB0 : Nat) (aB1 : Nat) (aB2 : Nat) (aB3 : Nat) (aB4 : Nat) (aB5 : Nat) (fb : Nat → Int32) (aL0 : Nat) (aL1 : Nat) (aL2 : Nat) (aL3 : Nat) (aL4 : Nat) (aL5 : Nat) (hu : Int32) (lt : Nat → Int32) (hn : n ≤ 20) : z_M l yX2_favouriteBeast wsX2_favouriteBeast { frames := 3, cells := 0, slots := 0, locals := 63 } G D [(cI, .int), (cZ, .boolean), (cQ, .array .int), (cW, .array .boolean)] [.ref aX] ([(aX, .inr (2, [.ref aB, .ref aL, .ref aT, .int se])), (aB, .inr (0, [.int (nI n), .ref aB0, .ref aB1, .ref aB2, .ref aB3, .ref aB4, .ref aB5])), (aB1, .inl (cI, 20, .inl fb)), (aL, .inr (1, [.ref aL0, .ref aL1, .ref aL2, .ref aL3, .ref aL4, .ref aL5, .int hu])), (aL3, .inl (cI, 6, .inl lt))]) (some (.int ((favB lt fb n 12).1))) [] 0 0 := by
  have iX2 : ∀ w ∈ u_ws RX2 TX2 4, w ∈ wsX2_favouriteBeast := fun w h => List.mem_cons_of_mem _ (List.mem_append_left _ (List.mem_append_left _ (List.mem_append_right _ h)))
  have iX0 : ∀ w ∈ u_ws RX0 TX0 7, w ∈ wsX2_favouriteBeast := fun w h => List.mem_cons_of_mem _ (List.mem_append_left _ (List.mem_append_right _ h))
  have iX1 : ∀ w ∈ u_ws RX1 TX1 7, w ∈ wsX2_favouriteBeast := fun w h => List.mem_cons_of_mem _ (List.mem_append_right _ h)
  refine z_ofW (cc := cX2_favouriteBeast) (nL := 5) (ret := (some .int)) (by decide) rfl (Nat.le_of_ble_eq_true rfl) [] rfl (lv0 := [(0, .ref aX)]) rfl ?_
  intro p e s m args below meth c K
  refine z_iconst (v := (-1)) K dX2_favouriteBeast_0 (by decide) ?_
  refine z_istore_n (lv' := [(1, .int (-1)), (0, .ref aX)]) K dX2_favouriteBeast_1 (by decide) rfl ?_
  refine z_iconst (v := 0) K dX2_favouriteBeast_2 (by decide) ?_
  refine z_istore_n (lv' := [(2, .int 0), (1, .int (-1)), (0, .ref aX)]) K dX2_favouriteBeast_3 (by decide) rfl ?_
  refine z_iconst (v := 0) K dX2_favouriteBeast_4 (by decide) ?_
  refine z_istore_n (lv' := [(3, .int 0), (2, .int 0), (1, .int (-1)), (0, .ref aX)]) K dX2_favouriteBeast_5 (by decide) rfl ?_
  refine z_loop (wsf := fun k => [(aX, .inr (2, [.ref aB, .ref aL, .ref aT, .int se])), (aB, .inr (0, [.int (nI n), .ref aB0, .ref aB1, .ref aB2, .ref aB3, .ref aB4, .ref aB5])), (aB1, .inl (cI, 20, .inl fb)), (aL, .inr (1, [.ref aL0, .ref aL1, .ref aL2, .ref aL3, .ref aL4, .ref aL5, .int hu])), (aL3, .inl (cI, 6, .inl lt))]) (lvf := fun k => [(3, .int (nI k)), (2, .int ((favB lt fb n k).2)), (1, .int ((favB lt fb n k).1)), (0, .ref aX)]) 12 rfl rfl ?_ (fun k hk ihk => ?_)
  · refine z_iload_n K 0 dX2_favouriteBeast_6 rfl ?_
    refine z_bipush (v := 12) K dX2_favouriteBeast_7 (by decide) ?_
    refine z_cmpN K 46 12 12 dX2_favouriteBeast_9 (by decide) rfl rfl (by omega) (by omega) (fun _ => ?_) (fun h => absurd h (by omega))
    refine z_iload_n K 2 dX2_favouriteBeast_46 rfl ?_
    exact z_iret K dX2_favouriteBeast_47 (rfl) [] rfl (by decide) (by decide)
  · refine z_iload_n K 0 dX2_favouriteBeast_6 rfl ?_
    refine z_bipush (v := 12) K dX2_favouriteBeast_7 (by decide) ?_
    refine z_cmpN K 46 k 12 dX2_favouriteBeast_9 (by decide) rfl rfl (by omega) (by omega) (fun h => absurd h (by omega)) (fun _ => ?_)
    refine z_aload_n K 3 dX2_favouriteBeast_12 rfl ?_
    refine z_get (C := RX2) (T := TX2) (N := 4) (ci := 2) K iX2 rfl 0 rfl 1 (by decide) (by decide +kernel) rfl rfl dX2_favouriteBeast_13 ?_
    refine z_aload_n K 3 dX2_favouriteBeast_16 rfl ?_
    refine z_get (C := RX2) (T := TX2) (N := 4) (ci := 2) K iX2 rfl 0 rfl 0 (by decide) (by decide +kernel) rfl rfl dX2_favouriteBeast_17 ?_
    refine z_iload_n K 0 dX2_favouriteBeast_20 rfl ?_
    refine z_callV (ws' := [(aX, .inr (2, [.ref aB, .ref aL, .ref aT, .int se])), (aB, .inr (0, [.int (nI n), .ref aB0, .ref aB1, .ref aB2, .ref aB3, .ref aB4, .ref aB5])), (aB1, .inl (cI, 20, .inl fb)), (aL, .inr (1, [.ref aL0, .ref aL1, .ref aL2, .ref aL3, .ref aL4, .ref aL5, .int hu])), (aL3, .inl (cI, 6, .inl lt))]) (st' := [.int (wbS fb (nI k) n), .ref aL]) (rest := [.ref aL]) (C := RX0) (T := TX0) (N := 7) K (m_X0_withBeast l _ D cI cZ cQ cW aB (nI k) n aB0 aB1 aB2 aB3 aB4 aB5 fb (by omega)) gX2_favouriteBeast_X0_withBeast rfl 1 0 (by decide +kernel) rfl dX2_favouriteBeast_21 [1, 2] 1 [] [] rfl rfl rfl ⟨by decide, by decide⟩ ⟨by decide, by decide⟩ rfl rfl rfl rfl rfl (Nat.le_of_ble_eq_true rfl) rfl rfl rfl rfl ?_
    refine z_callV (ws' := [(aX, .inr (2, [.ref aB, .ref aL, .ref aT, .int se])), (aB, .inr (0, [.int (nI n), .ref aB0, .ref aB1, .ref aB2, .ref aB3, .ref aB4, .ref aB5])), (aB1, .inl (cI, 20, .inl fb)), (aL, .inr (1, [.ref aL0, .ref aL1, .ref aL2, .ref aL3, .ref aL4, .ref aL5, .int hu])), (aL3, .inl (cI, 6, .inl lt))]) (st' := [.int (cntS lt (wbS fb (nI k) n) 6)]) (rest := []) (C := RX1) (T := TX1) (N := 7) K (m_X1_count l _ D cI cZ cQ cW aL (wbS fb (nI k) n) aL0 aL1 aL2 aL3 aL4 aL5 hu lt ) gX2_favouriteBeast_X1_count rfl 1 1 (by decide +kernel) rfl dX2_favouriteBeast_24 [3, 4] 3 [] [] rfl rfl rfl ⟨by decide, by decide⟩ ⟨by decide, by decide⟩ rfl rfl rfl rfl rfl (Nat.le_of_ble_eq_true rfl) rfl rfl rfl rfl ?_
    refine z_istore (lv' := [(4, .int (cntS lt (wbS fb (nI k) n) 6)), (3, .int (nI k)), (2, .int ((favB lt fb n k).2)), (1, .int ((favB lt fb n k).1)), (0, .ref aX)]) K dX2_favouriteBeast_27 (by decide) rfl ?_
    refine z_iload K 0 dX2_favouriteBeast_29 rfl ?_
    refine z_iload_n K 2 dX2_favouriteBeast_31 rfl ?_
    refine z_icmp_le K 40 dX2_favouriteBeast_32 (by decide) (fun c32 => ?_) (fun c32 => ?_)
    · refine z_iinc (lv' := [(3, .int (nI (k + 1))), (4, .int (cntS lt (wbS fb (nI k) n) 6)), (2, .int ((favB lt fb n k).2)), (1, .int ((favB lt fb n k).1)), (0, .ref aX)]) (v := nI (k + 1)) K 1 dX2_favouriteBeast_40 rfl (z_inc1 k) (by decide) rfl ?_
      refine z_goto K 6 dX2_favouriteBeast_43 (by decide) ?_
      refine z_lv (lv' := [(3, .int (nI (k + 1))), (2, .int ((favB lt fb n k).2)), (1, .int ((favB lt fb n k).1)), (0, .ref aX)]) [0, 2, 3, 4] rfl ?_
      rw [show ((favB lt fb n (k + 1)).2) = ((favB lt fb n k).2) from (by first | (simp only [favB_succ, c32, Bool.false_eq_true, if_false, if_true, ↓reduceIte]; done) | rfl | simp [favB_succ, c32])] at ihk
      rw [show ((favB lt fb n (k + 1)).1) = ((favB lt fb n k).1) from (by first | (simp only [favB_succ, c32, Bool.false_eq_true, if_false, if_true, ↓reduceIte]; done) | rfl | simp [favB_succ, c32])] at ihk
      exact ihk
    · refine z_iload K 0 dX2_favouriteBeast_35 rfl ?_
      refine z_istore_n (lv' := [(2, .int (cntS lt (wbS fb (nI k) n) 6)), (4, .int (cntS lt (wbS fb (nI k) n) 6)), (3, .int (nI k)), (1, .int ((favB lt fb n k).1)), (0, .ref aX)]) K dX2_favouriteBeast_37 (by decide) rfl ?_
      refine z_iload_n K 2 dX2_favouriteBeast_38 rfl ?_
      refine z_istore_n (lv' := [(1, .int (nI k)), (2, .int (cntS lt (wbS fb (nI k) n) 6)), (4, .int (cntS lt (wbS fb (nI k) n) 6)), (3, .int (nI k)), (0, .ref aX)]) K dX2_favouriteBeast_39 (by decide) rfl ?_
      refine z_iinc (lv' := [(3, .int (nI (k + 1))), (1, .int (nI k)), (2, .int (cntS lt (wbS fb (nI k) n) 6)), (4, .int (cntS lt (wbS fb (nI k) n) 6)), (0, .ref aX)]) (v := nI (k + 1)) K 3 dX2_favouriteBeast_40 rfl (z_inc1 k) (by decide) rfl ?_
      refine z_goto K 6 dX2_favouriteBeast_43 (by decide) ?_
      refine z_lv (lv' := [(3, .int (nI (k + 1))), (2, .int (cntS lt (wbS fb (nI k) n) 6)), (1, .int (nI k)), (0, .ref aX)]) [0, 2, 1, 4] rfl ?_
      rw [show ((favB lt fb n (k + 1)).2) = (cntS lt (wbS fb (nI k) n) 6) from (by first | (simp only [favB_succ, c32, Bool.false_eq_true, if_false, if_true, ↓reduceIte]; done) | rfl | simp [favB_succ, c32])] at ihk
      rw [show ((favB lt fb n (k + 1)).1) = (nI k) from (by first | (simp only [favB_succ, c32, Bool.false_eq_true, if_false, if_true, ↓reduceIte]; done) | rfl | simp [favB_succ, c32])] at ihk
      exact ihk

set_option maxRecDepth 100000 in
set_option maxHeartbeats 4000000 in
theorem m_X2_meanBeasts (l : Launch) (G : Nat → Prop) (D : va_G) (cI cZ cQ cW : ClassId) (aX : Nat) (aB : Nat) (aL : Nat) (aT : Nat) (se : Int32) (n : Nat) (aB0 : Nat) (aB1 : Nat) (aB2 : Nat) (aB3 : Nat) (aB4 : Nat) (aB5 : Nat) (fb : Nat → Int32) (hn : n ≤ 20) : z_M l yX2_meanBeasts wsX2_meanBeasts { frames := 2, cells := 0, slots := 0, locals := 40 } G D [(cI, .int), (cZ, .boolean), (cQ, .array .int), (cW, .array .boolean)] [.ref aX] ([(aX, .inr (2, [.ref aB, .ref aL, .ref aT, .int se])), (aB, .inr (0, [.int (nI n), .ref aB0, .ref aB1, .ref aB2, .ref aB3, .ref aB4, .ref aB5])), (aB1, .inl (cI, 20, .inl fb))]) (some (.double (meaD fb n))) [] 0 0 := by
  have iX2 : ∀ w ∈ u_ws RX2 TX2 4, w ∈ wsX2_meanBeasts := fun w h => List.mem_cons_of_mem _ (List.mem_append_left _ (List.mem_append_right _ h))
  have iX0 : ∀ w ∈ u_ws RX0 TX0 7, w ∈ wsX2_meanBeasts := fun w h => List.mem_cons_of_mem _ (List.mem_append_right _ h)
  refine z_ofW (cc := cX2_meanBeasts) (nL := 3) (ret := (some .double)) (by decide) rfl (Nat.le_of_ble_eq_true rfl) [] rfl (lv0 := [(0, .ref aX)]) rfl ?_
  intro p e s m args below meth c K
  refine z_aload_n K 0 dX2_meanBeasts_0 rfl ?_
  refine z_get (C := RX2) (T := TX2) (N := 4) (ci := 2) K iX2 rfl 0 rfl 0 (by decide) (by decide +kernel) rfl rfl dX2_meanBeasts_1 ?_
  refine z_get (C := RX0) (T := TX0) (N := 7) (ci := 0) K iX0 rfl 1 rfl 0 (by decide) (by decide +kernel) rfl rfl dX2_meanBeasts_4 ?_
  refine z_if_ne K 12 dX2_meanBeasts_7 (by decide) (fun c7 => ?_) (fun c7 => ?_)
  · refine z_iconst (v := 0) K dX2_meanBeasts_12 (by decide) ?_
    refine z_istore_n (lv' := [(1, .int 0), (0, .ref aX)]) K dX2_meanBeasts_13 (by decide) rfl ?_
    refine z_iconst (v := 0) K dX2_meanBeasts_14 (by decide) ?_
    refine z_istore_n (lv' := [(2, .int 0), (1, .int 0), (0, .ref aX)]) K dX2_meanBeasts_15 (by decide) rfl ?_
    refine z_loop (wsf := fun k => [(aX, .inr (2, [.ref aB, .ref aL, .ref aT, .int se])), (aB, .inr (0, [.int (nI n), .ref aB0, .ref aB1, .ref aB2, .ref aB3, .ref aB4, .ref aB5])), (aB1, .inl (cI, 20, .inl fb))]) (lvf := fun k => [(2, .int (nI k)), (1, .int (sumB fb k)), (0, .ref aX)]) n (by first | (simp only [sumB_0]; done) | (simp only [sumB_0]; rfl) | rfl) (by first | (simp only [sumB_0]; done) | (simp only [sumB_0]; rfl) | rfl) ?_ (fun k hk ihk => ?_)
    · refine z_iload_n K 0 dX2_meanBeasts_16 rfl ?_
      refine z_aload_n K 2 dX2_meanBeasts_17 rfl ?_
      refine z_get (C := RX2) (T := TX2) (N := 4) (ci := 2) K iX2 rfl 0 rfl 0 (by decide) (by decide +kernel) rfl rfl dX2_meanBeasts_18 ?_
      refine z_get (C := RX0) (T := TX0) (N := 7) (ci := 0) K iX0 rfl 1 rfl 0 (by decide) (by decide +kernel) rfl rfl dX2_meanBeasts_21 ?_
      refine z_cmpN K 48 n n dX2_meanBeasts_24 (by decide) rfl rfl (by omega) (by omega) (fun _ => ?_) (fun h => absurd h (by omega))
      refine z_iload_n K 1 dX2_meanBeasts_48 rfl ?_
      refine z_i2d K dX2_meanBeasts_49 ?_
      refine z_aload_n K 2 dX2_meanBeasts_50 rfl ?_
      refine z_get (C := RX2) (T := TX2) (N := 4) (ci := 2) K iX2 rfl 0 rfl 0 (by decide) (by decide +kernel) rfl rfl dX2_meanBeasts_51 ?_
      refine z_get (C := RX0) (T := TX0) (N := 7) (ci := 0) K iX0 rfl 1 rfl 0 (by decide) (by decide +kernel) rfl rfl dX2_meanBeasts_54 ?_
      refine z_i2d K dX2_meanBeasts_57 ?_
      refine z_ddiv K dX2_meanBeasts_58 (mea_ok fb hn c7) ?_
      exact z_dret K dX2_meanBeasts_59 ((by first | (simp only [meaD, c7, Bool.false_eq_true, if_false, if_true, ↓reduceIte]; done) | rfl | simp [meaD, c7])) [] rfl (by decide) (by decide)
    · refine z_iload_n K 0 dX2_meanBeasts_16 rfl ?_
      refine z_aload_n K 2 dX2_meanBeasts_17 rfl ?_
      refine z_get (C := RX2) (T := TX2) (N := 4) (ci := 2) K iX2 rfl 0 rfl 0 (by decide) (by decide +kernel) rfl rfl dX2_meanBeasts_18 ?_
      refine z_get (C := RX0) (T := TX0) (N := 7) (ci := 0) K iX0 rfl 1 rfl 0 (by decide) (by decide +kernel) rfl rfl dX2_meanBeasts_21 ?_
      refine z_cmpN K 48 k n dX2_meanBeasts_24 (by decide) rfl rfl (by omega) (by omega) (fun h => absurd h (by omega)) (fun _ => ?_)
      refine z_iload_n K 1 dX2_meanBeasts_27 rfl ?_
      refine z_aload_n K 2 dX2_meanBeasts_28 rfl ?_
      refine z_get (C := RX2) (T := TX2) (N := 4) (ci := 2) K iX2 rfl 0 rfl 0 (by decide) (by decide +kernel) rfl rfl dX2_meanBeasts_29 ?_
      refine z_get (C := RX0) (T := TX0) (N := 7) (ci := 0) K iX0 rfl 1 rfl 2 (by decide) (by decide +kernel) rfl rfl dX2_meanBeasts_32 ?_
      refine z_iload_n K 0 dX2_meanBeasts_35 rfl ?_
      refine z_ialdN K 2 0 k (by omega) (by omega) rfl rfl dX2_meanBeasts_36 ?_
      refine z_callS (ws' := [(aX, .inr (2, [.ref aB, .ref aL, .ref aT, .int se])), (aB, .inr (0, [.int (nI n), .ref aB0, .ref aB1, .ref aB2, .ref aB3, .ref aB4, .ref aB5])), (aB1, .inl (cI, 20, .inl fb))]) (st' := [.int (pc (fb k)), .int (sumB fb k)]) (rest := [.int (sumB fb k)]) K (m_X2_size l _ D cI cZ cQ cW (fb k) ) gX2_meanBeasts_X2_size rfl 1 (by decide +kernel) dX2_meanBeasts_37 [] [] [] rfl rfl rfl ⟨by decide, by decide⟩ ⟨by decide, by decide⟩ rfl rfl rfl rfl (Nat.le_of_ble_eq_true rfl) rfl rfl rfl rfl ?_
      refine z_iadd K dX2_meanBeasts_40 ?_
      refine z_istore_n (lv' := [(1, .int (sumB fb k + (pc (fb k)))), (2, .int (nI k)), (0, .ref aX)]) K dX2_meanBeasts_41 (by decide) rfl ?_
      refine z_iinc (lv' := [(2, .int (nI (k + 1))), (1, .int (sumB fb k + (pc (fb k)))), (0, .ref aX)]) (v := nI (k + 1)) K 1 dX2_meanBeasts_42 rfl (z_inc1 k) (by decide) rfl ?_
      refine z_goto K 16 dX2_meanBeasts_45 (by decide) ?_
      rw [show (sumB fb (k + 1)) = (sumB fb k + (pc (fb k))) from (by rw [sumB_succ])] at ihk
      exact ihk
  · refine z_dconst0 K dX2_meanBeasts_10 ?_
    exact z_dret K dX2_meanBeasts_11 ((by first | (simp only [meaD, c7, Bool.false_eq_true, if_false, if_true, ↓reduceIte]; done) | rfl | simp [meaD, c7])) [] rfl (by decide) (by decide)
