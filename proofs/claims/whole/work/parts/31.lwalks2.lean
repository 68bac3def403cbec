set_option maxRecDepth 100000 in
set_option maxHeartbeats 4000000 in
theorem w0_L_beastsOf (l : Launch) (G : Nat → Prop) (D : va_G) (cI cJ : ClassId) (aX : Nat) (w : Int32) (aO : Nat) (aB : Nat) (aL : Nat) (aT : Nat) (se : Int32) (n : Nat) (aB0 : Nat) (aB1 : Nat) (aB2 : Nat) (aB3 : Nat) (aB4 : Nat) (aB5 : Nat) (fb : Nat → Int32) (g : Nat → Int64) (hn : n ≤ 20) (hcd : cd1 (fin w n) = 0) : z_MX l yL_beastsOf wsL_beastsOf { frames := 8, cells := 6, slots := 36, locals := 124 } G D [(cI, .int), (cJ, .long)] [.ref aX, .int w, .ref aO] [(aX, .inr (2, [.ref aB, .ref aL, .ref aT, .int se])), (aB, .inr (0, [.int (nI n), .ref aB0, .ref aB1, .ref aB2, .ref aB3, .ref aB4, .ref aB5])), (aB1, .inl (cI, 20, .inl fb)), (aO, .inl (cJ, 1, .inr (.inl g)))] (True) (some (.int 0)) [(aO, .inl (cJ, 1, .inr (.inl (vp_updL g 0 (Int32.toInt64 (pc (fb (ix w))))))))] (fun _ : String => False) [(aO, .inl (cJ, 1, .inr (.inl g)))] 6 36 := by
  have iX2 : ∀ w ∈ u_ws RX2 TX2 4, w ∈ wsL_beastsOf := fun w h => List.mem_cons_of_mem _ (List.mem_append_left _ (List.mem_append_left _ (List.mem_append_right _ h)))
  have iX0 : ∀ w ∈ u_ws RX0 TX0 7, w ∈ wsL_beastsOf := fun w h => List.mem_cons_of_mem _ (List.mem_append_left _ (List.mem_append_right _ h))
  have t242 : ∀ w ∈ (vx_atS "FableIndex" 242 z_IOB ["java/lang/RuntimeException", "java/lang/Exception"]).filter goodWord, w ∈ wsL_beastsOf := fun w h => List.mem_cons_of_mem _ (List.mem_append_right _ h)
  refine z_ofWXH (hh := [(0, 9, 12, 13)]) (cc := cL_beastsOf) (nL := 4) (ret := (some .int)) (by decide) rfl (Nat.le_of_ble_eq_true rfl) [3] rfl (lv0 := [(0, .ref aX), (1, .int w), (2, .ref aO)]) rfl ?_
  intro p e s m args below meth c K htab
  refine z_aload_n K 2 dL_beastsOf_0 rfl ?_
  refine z_iconst (v := 0) K dL_beastsOf_1 (by decide) ?_
  refine z_aload_n K 0 dL_beastsOf_2 rfl ?_
  refine z_iload_n K 1 dL_beastsOf_3 rfl ?_
  refine z_callVX (ws' := [(aX, .inr (2, [.ref aB, .ref aL, .ref aT, .int se])), (aB, .inr (0, [.int (nI n), .ref aB0, .ref aB1, .ref aB2, .ref aB3, .ref aB4, .ref aB5])), (aB1, .inl (cI, 20, .inl fb)), (aO, .inl (cJ, 1, .inr (.inl g)))]) (st' := [.int (pc (fb (ix w))), .int 0, .ref aO]) (rest := [.int 0, .ref aO]) (C := RX2) (T := TX2) (N := 4) K (m_X2_beastsOf l G D cI cJ aX w aB aL aT se n aB0 aB1 aB2 aB3 aB4 aB5 fb (by omega)) gL_beastsOf_X2_beastsOf rfl 1 2 (by decide +kernel) rfl dL_beastsOf_4 [0, 1, 2] 0 [] [] rfl rfl rfl ⟨by decide, by decide⟩ ⟨by decide, by decide⟩ rfl rfl rfl rfl rfl (Nat.le_of_ble_eq_true rfl) rfl rfl rfl rfl rfl rfl rfl (fun E hE => zx_no hcd hE) (fun _ => ?_)
  refine z_i2l K dL_beastsOf_7 ?_
  refine z_lastN K 3 1 0 (by omega) (by omega) rfl rfl dL_beastsOf_8 (z_memA 0 rfl) (ws' := [(aX, .inr (2, [.ref aB, .ref aL, .ref aT, .int se])), (aB, .inr (0, [.int (nI n), .ref aB0, .ref aB1, .ref aB2, .ref aB3, .ref aB4, .ref aB5])), (aB1, .inl (cI, 20, .inl fb)), (aO, .inl (cJ, 1, .inr (.inl (vp_updL g 0 (Int32.toInt64 (pc (fb (ix w))))))))]) rfl ?_
  refine z_goto K 15 dL_beastsOf_9 (by decide) ?_
  refine z_iconst (v := 0) K dL_beastsOf_15 (by decide) ?_
  exact z_iretX K trivial dL_beastsOf_16 (rfl) [3] rfl (by decide) (by decide)

set_option maxRecDepth 100000 in
set_option maxHeartbeats 4000000 in
theorem w1_L_beastsOf (l : Launch) (G : Nat → Prop) (D : va_G) (cI cJ : ClassId) (aX : Nat) (w : Int32) (aO : Nat) (aB : Nat) (aL : Nat) (aT : Nat) (se : Int32) (n : Nat) (aB0 : Nat) (aB1 : Nat) (aB2 : Nat) (aB3 : Nat) (aB4 : Nat) (aB5 : Nat) (fb : Nat → Int32) (g : Nat → Int64) (hn : n ≤ 20) (hcd : ¬ cd1 (fin w n) = 0) : z_MX l yL_beastsOf wsL_beastsOf { frames := 8, cells := 6, slots := 36, locals := 124 } G D [(cI, .int), (cJ, .long)] [.ref aX, .int w, .ref aO] [(aX, .inr (2, [.ref aB, .ref aL, .ref aT, .int se])), (aB, .inr (0, [.int (nI n), .ref aB0, .ref aB1, .ref aB2, .ref aB3, .ref aB4, .ref aB5])), (aB1, .inl (cI, 20, .inl fb)), (aO, .inl (cJ, 1, .inr (.inl g)))] (True) (some (.int (nI (cd1 (fin w n))))) [(aO, .inl (cJ, 1, .inr (.inl g)))] (fun _ : String => False) [(aO, .inl (cJ, 1, .inr (.inl g)))] 6 36 := by
  have iX2 : ∀ w ∈ u_ws RX2 TX2 4, w ∈ wsL_beastsOf := fun w h => List.mem_cons_of_mem _ (List.mem_append_left _ (List.mem_append_left _ (List.mem_append_right _ h)))
  have iX0 : ∀ w ∈ u_ws RX0 TX0 7, w ∈ wsL_beastsOf := fun w h => List.mem_cons_of_mem _ (List.mem_append_left _ (List.mem_append_right _ h))
  have t242 : ∀ w ∈ (vx_atS "FableIndex" 242 z_IOB ["java/lang/RuntimeException", "java/lang/Exception"]).filter goodWord, w ∈ wsL_beastsOf := fun w h => List.mem_cons_of_mem _ (List.mem_append_right _ h)
  refine z_ofWXH (hh := [(0, 9, 12, 13)]) (cc := cL_beastsOf) (nL := 4) (ret := (some .int)) (by decide) rfl (Nat.le_of_ble_eq_true rfl) [3] rfl (lv0 := [(0, .ref aX), (1, .int w), (2, .ref aO)]) rfl ?_
  intro p e s m args below meth c K htab
  refine z_aload_n K 2 dL_beastsOf_0 rfl ?_
  refine z_iconst (v := 0) K dL_beastsOf_1 (by decide) ?_
  refine z_aload_n K 0 dL_beastsOf_2 rfl ?_
  refine z_iload_n K 1 dL_beastsOf_3 rfl ?_
  refine z_callVX (ws' := [(aX, .inr (2, [.ref aB, .ref aL, .ref aT, .int se])), (aB, .inr (0, [.int (nI n), .ref aB0, .ref aB1, .ref aB2, .ref aB3, .ref aB4, .ref aB5])), (aB1, .inl (cI, 20, .inl fb)), (aO, .inl (cJ, 1, .inr (.inl g)))]) (st' := [.int (pc (fb (ix w))), .int 0, .ref aO]) (rest := [.int 0, .ref aO]) (C := RX2) (T := TX2) (N := 4) K (m_X2_beastsOf l G D cI cJ aX w aB aL aT se n aB0 aB1 aB2 aB3 aB4 aB5 fb (by omega)) gL_beastsOf_X2_beastsOf rfl 1 2 (by decide +kernel) rfl dL_beastsOf_4 [0, 1, 2] 0 [] [] rfl rfl rfl ⟨by decide, by decide⟩ ⟨by decide, by decide⟩ rfl rfl rfl rfl rfl (Nat.le_of_ble_eq_true rfl) rfl rfl rfl rfl rfl rfl rfl (fun E hE => ?_) (fun hk => absurd hk hcd)
  rcases hE with ⟨h9, rfl⟩ | ⟨h9, rfl⟩
  · refine zx_catch (name := "java/lang/IndexOutOfBoundsException") K htab [] ⟨0, 9, 12, 13⟩ [] rfl (fun _ h => absurd h List.not_mem_nil) (by decide) (by decide) (by decide +kernel) (by decide) (fun q => ?_)
    refine z_astore_n (lv' := [(3, .ref q), (0, .ref aX), (1, .int w), (2, .ref aO)]) K dL_beastsOf_12 (by decide) rfl ?_
    refine z_iconst (v := 1) K dL_beastsOf_13 (by decide) ?_
    exact z_iretX K trivial dL_beastsOf_14 (by rw [h9]; rfl) [3] rfl (by decide) (by decide)
  · exact absurd h9 cd1_ne2

set_option maxRecDepth 100000 in
set_option maxHeartbeats 4000000 in
theorem w0_L_hasBeast (l : Launch) (G : Nat → Prop) (D : va_G) (cI cJ : ClassId) (aX : Nat) (w : Int32) (x : Int32) (aO : Nat) (aB : Nat) (aL : Nat) (aT : Nat) (se : Int32) (n : Nat) (aB0 : Nat) (aB1 : Nat) (aB2 : Nat) (aB3 : Nat) (aB4 : Nat) (aB5 : Nat) (fb : Nat → Int32) (g : Nat → Int64) (hn : n ≤ 20) (hcd : cd1 (fin w n && fin x 12) = 0) : z_MX l yL_hasBeast wsL_hasBeast { frames := 8, cells := 6, slots := 36, locals := 125 } G D [(cI, .int), (cJ, .long)] [.ref aX, .int w, .int x, .ref aO] [(aX, .inr (2, [.ref aB, .ref aL, .ref aT, .int se])), (aB, .inr (0, [.int (nI n), .ref aB0, .ref aB1, .ref aB2, .ref aB3, .ref aB4, .ref aB5])), (aB1, .inl (cI, 20, .inl fb)), (aO, .inl (cJ, 1, .inr (.inl g)))] (True) (some (.int 0)) [(aO, .inl (cJ, 1, .inr (.inl (vp_updL g 0 (Int32.toInt64 (z_b (hs (fb (ix w)) x)))))))] (fun _ : String => False) [(aO, .inl (cJ, 1, .inr (.inl g)))] 6 36 := by
  have iX2 : ∀ w ∈ u_ws RX2 TX2 4, w ∈ wsL_hasBeast := fun w h => List.mem_cons_of_mem _ (List.mem_append_left _ (List.mem_append_left _ (List.mem_append_right _ h)))
  have iX0 : ∀ w ∈ u_ws RX0 TX0 7, w ∈ wsL_hasBeast := fun w h => List.mem_cons_of_mem _ (List.mem_append_left _ (List.mem_append_right _ h))
  have t242 : ∀ w ∈ (vx_atS "FableIndex" 242 z_IOB ["java/lang/RuntimeException", "java/lang/Exception"]).filter goodWord, w ∈ wsL_hasBeast := fun w h => List.mem_cons_of_mem _ (List.mem_append_right _ h)
  refine z_ofWXH (hh := [(0, 17, 20, 13)]) (cc := cL_hasBeast) (nL := 5) (ret := (some .int)) (by decide) rfl (Nat.le_of_ble_eq_true rfl) [3] rfl (lv0 := [(0, .ref aX), (1, .int w), (2, .int x), (3, .ref aO)]) rfl ?_
  intro p e s m args below meth c K htab
  refine z_aload_n K 3 dL_hasBeast_0 rfl ?_
  refine z_iconst (v := 0) K dL_hasBeast_1 (by decide) ?_
  refine z_aload_n K 0 dL_hasBeast_2 rfl ?_
  refine z_iload_n K 1 dL_hasBeast_3 rfl ?_
  refine z_iload_n K 2 dL_hasBeast_4 rfl ?_
  refine z_callVX (ws' := [(aX, .inr (2, [.ref aB, .ref aL, .ref aT, .int se])), (aB, .inr (0, [.int (nI n), .ref aB0, .ref aB1, .ref aB2, .ref aB3, .ref aB4, .ref aB5])), (aB1, .inl (cI, 20, .inl fb)), (aO, .inl (cJ, 1, .inr (.inl g)))]) (st' := [.int (z_b (hs (fb (ix w)) x)), .int 0, .ref aO]) (rest := [.int 0, .ref aO]) (C := RX2) (T := TX2) (N := 4) K (m_X2_hasBeast l G D cI cJ aX w x aB aL aT se n aB0 aB1 aB2 aB3 aB4 aB5 fb (by omega)) gL_hasBeast_X2_hasBeast rfl 2 2 (by decide +kernel) rfl dL_hasBeast_5 [0, 1, 2] 0 [] [] rfl rfl rfl ⟨by decide, by decide⟩ ⟨by decide, by decide⟩ rfl rfl rfl rfl rfl (Nat.le_of_ble_eq_true rfl) rfl rfl rfl rfl rfl rfl rfl (fun E hE => zx_no hcd hE) (fun _ => ?_)
  refine z_if_eqB K 15 dL_hasBeast_8 (by decide) (fun c8 => ?_) (fun c8 => ?_)
  · refine z_lconst (v := 0) K dL_hasBeast_15 (by decide) ?_
    refine z_lastN K 3 1 0 (by omega) (by omega) rfl rfl dL_hasBeast_16 (z_memA 0 rfl) (ws' := [(aX, .inr (2, [.ref aB, .ref aL, .ref aT, .int se])), (aB, .inr (0, [.int (nI n), .ref aB0, .ref aB1, .ref aB2, .ref aB3, .ref aB4, .ref aB5])), (aB1, .inl (cI, 20, .inl fb)), (aO, .inl (cJ, 1, .inr (.inl (vp_updL g 0 0))))]) rfl ?_
    refine z_goto K 24 dL_hasBeast_17 (by decide) ?_
    refine z_iconst (v := 0) K dL_hasBeast_24 (by decide) ?_
    exact z_iretX K trivial dL_hasBeast_25 (rfl) [3] (by rw [show (vp_updL g 0 (Int32.toInt64 (z_b (hs (fb (ix w)) x)))) = (vp_updL g 0 0) from (by rw [c8]; rfl)]; rfl) (by decide) (by decide)
  · refine z_lconst (v := 1) K dL_hasBeast_11 (by decide) ?_
    refine z_goto K 16 dL_hasBeast_12 (by decide) ?_
    refine z_lastN K 3 1 0 (by omega) (by omega) rfl rfl dL_hasBeast_16 (z_memA 0 rfl) (ws' := [(aX, .inr (2, [.ref aB, .ref aL, .ref aT, .int se])), (aB, .inr (0, [.int (nI n), .ref aB0, .ref aB1, .ref aB2, .ref aB3, .ref aB4, .ref aB5])), (aB1, .inl (cI, 20, .inl fb)), (aO, .inl (cJ, 1, .inr (.inl (vp_updL g 0 1))))]) rfl ?_
    refine z_goto K 24 dL_hasBeast_17 (by decide) ?_
    refine z_iconst (v := 0) K dL_hasBeast_24 (by decide) ?_
    exact z_iretX K trivial dL_hasBeast_25 (rfl) [3] (by rw [show (vp_updL g 0 (Int32.toInt64 (z_b (hs (fb (ix w)) x)))) = (vp_updL g 0 1) from (by rw [c8]; rfl)]; rfl) (by decide) (by decide)

set_option maxRecDepth 100000 in
set_option maxHeartbeats 4000000 in
theorem w1_L_hasBeast (l : Launch) (G : Nat → Prop) (D : va_G) (cI cJ : ClassId) (aX : Nat) (w : Int32) (x : Int32) (aO : Nat) (aB : Nat) (aL : Nat) (aT : Nat) (se : Int32) (n : Nat) (aB0 : Nat) (aB1 : Nat) (aB2 : Nat) (aB3 : Nat) (aB4 : Nat) (aB5 : Nat) (fb : Nat → Int32) (g : Nat → Int64) (hn : n ≤ 20) (hcd : ¬ cd1 (fin w n && fin x 12) = 0) : z_MX l yL_hasBeast wsL_hasBeast { frames := 8, cells := 6, slots := 36, locals := 125 } G D [(cI, .int), (cJ, .long)] [.ref aX, .int w, .int x, .ref aO] [(aX, .inr (2, [.ref aB, .ref aL, .ref aT, .int se])), (aB, .inr (0, [.int (nI n), .ref aB0, .ref aB1, .ref aB2, .ref aB3, .ref aB4, .ref aB5])), (aB1, .inl (cI, 20, .inl fb)), (aO, .inl (cJ, 1, .inr (.inl g)))] (True) (some (.int (nI (cd1 (fin w n && fin x 12))))) [(aO, .inl (cJ, 1, .inr (.inl g)))] (fun _ : String => False) [(aO, .inl (cJ, 1, .inr (.inl g)))] 6 36 := by
  have iX2 : ∀ w ∈ u_ws RX2 TX2 4, w ∈ wsL_hasBeast := fun w h => List.mem_cons_of_mem _ (List.mem_append_left _ (List.mem_append_left _ (List.mem_append_right _ h)))
  have iX0 : ∀ w ∈ u_ws RX0 TX0 7, w ∈ wsL_hasBeast := fun w h => List.mem_cons_of_mem _ (List.mem_append_left _ (List.mem_append_right _ h))
  have t242 : ∀ w ∈ (vx_atS "FableIndex" 242 z_IOB ["java/lang/RuntimeException", "java/lang/Exception"]).filter goodWord, w ∈ wsL_hasBeast := fun w h => List.mem_cons_of_mem _ (List.mem_append_right _ h)
  refine z_ofWXH (hh := [(0, 17, 20, 13)]) (cc := cL_hasBeast) (nL := 5) (ret := (some .int)) (by decide) rfl (Nat.le_of_ble_eq_true rfl) [3] rfl (lv0 := [(0, .ref aX), (1, .int w), (2, .int x), (3, .ref aO)]) rfl ?_
  intro p e s m args below meth c K htab
  refine z_aload_n K 3 dL_hasBeast_0 rfl ?_
  refine z_iconst (v := 0) K dL_hasBeast_1 (by decide) ?_
  refine z_aload_n K 0 dL_hasBeast_2 rfl ?_
  refine z_iload_n K 1 dL_hasBeast_3 rfl ?_
  refine z_iload_n K 2 dL_hasBeast_4 rfl ?_
  refine z_callVX (ws' := [(aX, .inr (2, [.ref aB, .ref aL, .ref aT, .int se])), (aB, .inr (0, [.int (nI n), .ref aB0, .ref aB1, .ref aB2, .ref aB3, .ref aB4, .ref aB5])), (aB1, .inl (cI, 20, .inl fb)), (aO, .inl (cJ, 1, .inr (.inl g)))]) (st' := [.int (z_b (hs (fb (ix w)) x)), .int 0, .ref aO]) (rest := [.int 0, .ref aO]) (C := RX2) (T := TX2) (N := 4) K (m_X2_hasBeast l G D cI cJ aX w x aB aL aT se n aB0 aB1 aB2 aB3 aB4 aB5 fb (by omega)) gL_hasBeast_X2_hasBeast rfl 2 2 (by decide +kernel) rfl dL_hasBeast_5 [0, 1, 2] 0 [] [] rfl rfl rfl ⟨by decide, by decide⟩ ⟨by decide, by decide⟩ rfl rfl rfl rfl rfl (Nat.le_of_ble_eq_true rfl) rfl rfl rfl rfl rfl rfl rfl (fun E hE => ?_) (fun hk => absurd hk hcd)
  rcases hE with ⟨h9, rfl⟩ | ⟨h9, rfl⟩
  · refine zx_catch (name := "java/lang/IndexOutOfBoundsException") K htab [] ⟨0, 17, 20, 13⟩ [] rfl (fun _ h => absurd h List.not_mem_nil) (by decide) (by decide) (by decide +kernel) (by decide) (fun q => ?_)
    refine z_astore (lv' := [(4, .ref q), (0, .ref aX), (1, .int w), (2, .int x), (3, .ref aO)]) K dL_hasBeast_20 (by decide) rfl ?_
    refine z_iconst (v := 1) K dL_hasBeast_22 (by decide) ?_
    exact z_iretX K trivial dL_hasBeast_23 (by rw [h9]; rfl) [3] rfl (by decide) (by decide)
  · exact absurd h9 cd1_ne2

set_option maxRecDepth 100000 in
set_option maxHeartbeats 4000000 in
theorem w0_L_homeOf (l : Launch) (G : Nat → Prop) (D : va_G) (cI cJ : ClassId) (aX : Nat) (w : Int32) (aO : Nat) (aB : Nat) (aL : Nat) (aT : Nat) (se : Int32) (n : Nat) (aB0 : Nat) (aB1 : Nat) (aB2 : Nat) (aB3 : Nat) (aB4 : Nat) (aB5 : Nat) (fh : Nat → Int32) (g : Nat → Int64) (hn : n ≤ 20) (hcd : cd1 (fin w n) = 0) : z_MX l yL_homeOf wsL_homeOf { frames := 8, cells := 6, slots := 36, locals := 124 } G D [(cI, .int), (cJ, .long)] [.ref aX, .int w, .ref aO] [(aX, .inr (2, [.ref aB, .ref aL, .ref aT, .int se])), (aB, .inr (0, [.int (nI n), .ref aB0, .ref aB1, .ref aB2, .ref aB3, .ref aB4, .ref aB5])), (aB2, .inl (cI, 20, .inl fh)), (aO, .inl (cJ, 1, .inr (.inl g)))] (True) (some (.int 0)) [(aO, .inl (cJ, 1, .inr (.inl (vp_updL g 0 (Int32.toInt64 (fh (ix w)))))))] (fun _ : String => False) [(aO, .inl (cJ, 1, .inr (.inl g)))] 6 36 := by
  have iX2 : ∀ w ∈ u_ws RX2 TX2 4, w ∈ wsL_homeOf := fun w h => List.mem_cons_of_mem _ (List.mem_append_left _ (List.mem_append_left _ (List.mem_append_right _ h)))
  have iX0 : ∀ w ∈ u_ws RX0 TX0 7, w ∈ wsL_homeOf := fun w h => List.mem_cons_of_mem _ (List.mem_append_left _ (List.mem_append_right _ h))
  have t242 : ∀ w ∈ (vx_atS "FableIndex" 242 z_IOB ["java/lang/RuntimeException", "java/lang/Exception"]).filter goodWord, w ∈ wsL_homeOf := fun w h => List.mem_cons_of_mem _ (List.mem_append_right _ h)
  refine z_ofWXH (hh := [(0, 9, 12, 13)]) (cc := cL_homeOf) (nL := 4) (ret := (some .int)) (by decide) rfl (Nat.le_of_ble_eq_true rfl) [3] rfl (lv0 := [(0, .ref aX), (1, .int w), (2, .ref aO)]) rfl ?_
  intro p e s m args below meth c K htab
  refine z_aload_n K 2 dL_homeOf_0 rfl ?_
  refine z_iconst (v := 0) K dL_homeOf_1 (by decide) ?_
  refine z_aload_n K 0 dL_homeOf_2 rfl ?_
  refine z_iload_n K 1 dL_homeOf_3 rfl ?_
  refine z_callVX (ws' := [(aX, .inr (2, [.ref aB, .ref aL, .ref aT, .int se])), (aB, .inr (0, [.int (nI n), .ref aB0, .ref aB1, .ref aB2, .ref aB3, .ref aB4, .ref aB5])), (aB2, .inl (cI, 20, .inl fh)), (aO, .inl (cJ, 1, .inr (.inl g)))]) (st' := [.int (fh (ix w)), .int 0, .ref aO]) (rest := [.int 0, .ref aO]) (C := RX2) (T := TX2) (N := 4) K (m_X2_homeOf l G D cI cJ aX w aB aL aT se n aB0 aB1 aB2 aB3 aB4 aB5 fh (by omega)) gL_homeOf_X2_homeOf rfl 1 2 (by decide +kernel) rfl dL_homeOf_4 [0, 1, 2] 0 [] [] rfl rfl rfl ⟨by decide, by decide⟩ ⟨by decide, by decide⟩ rfl rfl rfl rfl rfl (Nat.le_of_ble_eq_true rfl) rfl rfl rfl rfl rfl rfl rfl (fun E hE => zx_no hcd hE) (fun _ => ?_)
  refine z_i2l K dL_homeOf_7 ?_
  refine z_lastN K 3 1 0 (by omega) (by omega) rfl rfl dL_homeOf_8 (z_memA 0 rfl) (ws' := [(aX, .inr (2, [.ref aB, .ref aL, .ref aT, .int se])), (aB, .inr (0, [.int (nI n), .ref aB0, .ref aB1, .ref aB2, .ref aB3, .ref aB4, .ref aB5])), (aB2, .inl (cI, 20, .inl fh)), (aO, .inl (cJ, 1, .inr (.inl (vp_updL g 0 (Int32.toInt64 (fh (ix w)))))))]) rfl ?_
  refine z_goto K 15 dL_homeOf_9 (by decide) ?_
  refine z_iconst (v := 0) K dL_homeOf_15 (by decide) ?_
  exact z_iretX K trivial dL_homeOf_16 (rfl) [3] rfl (by decide) (by decide)

set_option maxRecDepth 100000 in
set_option maxHeartbeats 4000000 in
theorem w1_L_homeOf (l : Launch) (G : Nat → Prop) (D : va_G) (cI cJ : ClassId) (aX : Nat) (w : Int32) (aO : Nat) (aB : Nat) (aL : Nat) (aT : Nat) (se : Int32) (n : Nat) (aB0 : Nat) (aB1 : Nat) (aB2 : Nat) (aB3 : Nat) (aB4 : Nat) (aB5 : Nat) (fh : Nat → Int32) (g : Nat → Int64) (hn : n ≤ 20) (hcd : ¬ cd1 (fin w n) = 0) : z_MX l yL_homeOf wsL_homeOf { frames := 8, cells := 6, slots := 36, locals := 124 } G D [(cI, .int), (cJ, .long)] [.ref aX, .int w, .ref aO] [(aX, .inr (2, [.ref aB, .ref aL, .ref aT, .int se])), (aB, .inr (0, [.int (nI n), .ref aB0, .ref aB1, .ref aB2, .ref aB3, .ref aB4, .ref aB5])), (aB2, .inl (cI, 20, .inl fh)), (aO, .inl (cJ, 1, .inr (.inl g)))] (True) (some (.int (nI (cd1 (fin w n))))) [(aO, .inl (cJ, 1, .inr (.inl g)))] (fun _ : String => False) [(aO, .inl (cJ, 1, .inr (.inl g)))] 6 36 := by
  have iX2 : ∀ w ∈ u_ws RX2 TX2 4, w ∈ wsL_homeOf := fun w h => List.mem_cons_of_mem _ (List.mem_append_left _ (List.mem_append_left _ (List.mem_append_right _ h)))
  have iX0 : ∀ w ∈ u_ws RX0 TX0 7, w ∈ wsL_homeOf := fun w h => List.mem_cons_of_mem _ (List.mem_append_left _ (List.mem_append_right _ h))
  have t242 : ∀ w ∈ (vx_atS "FableIndex" 242 z_IOB ["java/lang/RuntimeException", "java/lang/Exception"]).filter goodWord, w ∈ wsL_homeOf := fun w h => List.mem_cons_of_mem _ (List.mem_append_right _ h)
  refine z_ofWXH (hh := [(0, 9, 12, 13)]) (cc := cL_homeOf) (nL := 4) (ret := (some .int)) (by decide) rfl (Nat.le_of_ble_eq_true rfl) [3] rfl (lv0 := [(0, .ref aX), (1, .int w), (2, .ref aO)]) rfl ?_
  intro p e s m args below meth c K htab
  refine z_aload_n K 2 dL_homeOf_0 rfl ?_
  refine z_iconst (v := 0) K dL_homeOf_1 (by decide) ?_
  refine z_aload_n K 0 dL_homeOf_2 rfl ?_
  refine z_iload_n K 1 dL_homeOf_3 rfl ?_
  refine z_callVX (ws' := [(aX, .inr (2, [.ref aB, .ref aL, .ref aT, .int se])), (aB, .inr (0, [.int (nI n), .ref aB0, .ref aB1, .ref aB2, .ref aB3, .ref aB4, .ref aB5])), (aB2, .inl (cI, 20, .inl fh)), (aO, .inl (cJ, 1, .inr (.inl g)))]) (st' := [.int (fh (ix w)), .int 0, .ref aO]) (rest := [.int 0, .ref aO]) (C := RX2) (T := TX2) (N := 4) K (m_X2_homeOf l G D cI cJ aX w aB aL aT se n aB0 aB1 aB2 aB3 aB4 aB5 fh (by omega)) gL_homeOf_X2_homeOf rfl 1 2 (by decide +kernel) rfl dL_homeOf_4 [0, 1, 2] 0 [] [] rfl rfl rfl ⟨by decide, by decide⟩ ⟨by decide, by decide⟩ rfl rfl rfl rfl rfl (Nat.le_of_ble_eq_true rfl) rfl rfl rfl rfl rfl rfl rfl (fun E hE => ?_) (fun hk => absurd hk hcd)
  rcases hE with ⟨h9, rfl⟩ | ⟨h9, rfl⟩
  · refine zx_catch (name := "java/lang/IndexOutOfBoundsException") K htab [] ⟨0, 9, 12, 13⟩ [] rfl (fun _ h => absurd h List.not_mem_nil) (by decide) (by decide) (by decide +kernel) (by decide) (fun q => ?_)
    refine z_astore_n (lv' := [(3, .ref q), (0, .ref aX), (1, .int w), (2, .ref aO)]) K dL_homeOf_12 (by decide) rfl ?_
    refine z_iconst (v := 1) K dL_homeOf_13 (by decide) ?_
    exact z_iretX K trivial dL_homeOf_14 (by rw [h9]; rfl) [3] rfl (by decide) (by decide)
  · exact absurd h9 cd1_ne2

set_option maxRecDepth 100000 in
set_option maxHeartbeats 4000000 in
theorem w0_L_parentOf (l : Launch) (G : Nat → Prop) (D : va_G) (cI cJ : ClassId) (aX : Nat) (w : Int32) (aO : Nat) (aB : Nat) (aL : Nat) (aT : Nat) (se : Int32) (n : Nat) (aB0 : Nat) (aB1 : Nat) (aB2 : Nat) (aB3 : Nat) (aB4 : Nat) (aB5 : Nat) (fp : Nat → Int32) (g : Nat → Int64) (hn : n ≤ 20) (hcd : cd1 (fin w n) = 0) : z_MX l yL_parentOf wsL_parentOf { frames := 8, cells := 6, slots := 36, locals := 124 } G D [(cI, .int), (cJ, .long)] [.ref aX, .int w, .ref aO] [(aX, .inr (2, [.ref aB, .ref aL, .ref aT, .int se])), (aB, .inr (0, [.int (nI n), .ref aB0, .ref aB1, .ref aB2, .ref aB3, .ref aB4, .ref aB5])), (aB3, .inl (cI, 20, .inl fp)), (aO, .inl (cJ, 1, .inr (.inl g)))] (True) (some (.int 0)) [(aO, .inl (cJ, 1, .inr (.inl (vp_updL g 0 (Int32.toInt64 (fp (ix w)))))))] (fun _ : String => False) [(aO, .inl (cJ, 1, .inr (.inl g)))] 6 36 := by
  have iX2 : ∀ w ∈ u_ws RX2 TX2 4, w ∈ wsL_parentOf := fun w h => List.mem_cons_of_mem _ (List.mem_append_left _ (List.mem_append_left _ (List.mem_append_right _ h)))
  have iX0 : ∀ w ∈ u_ws RX0 TX0 7, w ∈ wsL_parentOf := fun w h => List.mem_cons_of_mem _ (List.mem_append_left _ (List.mem_append_right _ h))
  have t242 : ∀ w ∈ (vx_atS "FableIndex" 242 z_IOB ["java/lang/RuntimeException", "java/lang/Exception"]).filter goodWord, w ∈ wsL_parentOf := fun w h => List.mem_cons_of_mem _ (List.mem_append_right _ h)
  refine z_ofWXH (hh := [(0, 9, 12, 13)]) (cc := cL_parentOf) (nL := 4) (ret := (some .int)) (by decide) rfl (Nat.le_of_ble_eq_true rfl) [3] rfl (lv0 := [(0, .ref aX), (1, .int w), (2, .ref aO)]) rfl ?_
  intro p e s m args below meth c K htab
  refine z_aload_n K 2 dL_parentOf_0 rfl ?_
  refine z_iconst (v := 0) K dL_parentOf_1 (by decide) ?_
  refine z_aload_n K 0 dL_parentOf_2 rfl ?_
  refine z_iload_n K 1 dL_parentOf_3 rfl ?_
  refine z_callVX (ws' := [(aX, .inr (2, [.ref aB, .ref aL, .ref aT, .int se])), (aB, .inr (0, [.int (nI n), .ref aB0, .ref aB1, .ref aB2, .ref aB3, .ref aB4, .ref aB5])), (aB3, .inl (cI, 20, .inl fp)), (aO, .inl (cJ, 1, .inr (.inl g)))]) (st' := [.int (fp (ix w)), .int 0, .ref aO]) (rest := [.int 0, .ref aO]) (C := RX2) (T := TX2) (N := 4) K (m_X2_parentOf l G D cI cJ aX w aB aL aT se n aB0 aB1 aB2 aB3 aB4 aB5 fp (by omega)) gL_parentOf_X2_parentOf rfl 1 2 (by decide +kernel) rfl dL_parentOf_4 [0, 1, 2] 0 [] [] rfl rfl rfl ⟨by decide, by decide⟩ ⟨by decide, by decide⟩ rfl rfl rfl rfl rfl (Nat.le_of_ble_eq_true rfl) rfl rfl rfl rfl rfl rfl rfl (fun E hE => zx_no hcd hE) (fun _ => ?_)
  refine z_i2l K dL_parentOf_7 ?_
  refine z_lastN K 3 1 0 (by omega) (by omega) rfl rfl dL_parentOf_8 (z_memA 0 rfl) (ws' := [(aX, .inr (2, [.ref aB, .ref aL, .ref aT, .int se])), (aB, .inr (0, [.int (nI n), .ref aB0, .ref aB1, .ref aB2, .ref aB3, .ref aB4, .ref aB5])), (aB3, .inl (cI, 20, .inl fp)), (aO, .inl (cJ, 1, .inr (.inl (vp_updL g 0 (Int32.toInt64 (fp (ix w)))))))]) rfl ?_
  refine z_goto K 15 dL_parentOf_9 (by decide) ?_
  refine z_iconst (v := 0) K dL_parentOf_15 (by decide) ?_
  exact z_iretX K trivial dL_parentOf_16 (rfl) [3] rfl (by decide) (by decide)

set_option maxRecDepth 100000 in
set_option maxHeartbeats 4000000 in
theorem w1_L_parentOf (l : Launch) (G : Nat → Prop) (D : va_G) (cI cJ : ClassId) (aX : Nat) (w : Int32) (aO : Nat) (aB : Nat) (aL : Nat) (aT : Nat) (se : Int32) (n : Nat) (aB0 : Nat) (aB1 : Nat) (aB2 : Nat) (aB3 : Nat) (aB4 : Nat) (aB5 : Nat) (fp : Nat → Int32) (g : Nat → Int64) (hn : n ≤ 20) (hcd : ¬ cd1 (fin w n) = 0) : z_MX l yL_parentOf wsL_parentOf { frames := 8, cells := 6, slots := 36, locals := 124 } G D [(cI, .int), (cJ, .long)] [.ref aX, .int w, .ref aO] [(aX, .inr (2, [.ref aB, .ref aL, .ref aT, .int se])), (aB, .inr (0, [.int (nI n), .ref aB0, .ref aB1, .ref aB2, .ref aB3, .ref aB4, .ref aB5])), (aB3, .inl (cI, 20, .inl fp)), (aO, .inl (cJ, 1, .inr (.inl g)))] (True) (some (.int (nI (cd1 (fin w n))))) [(aO, .inl (cJ, 1, .inr (.inl g)))] (fun _ : String => False) [(aO, .inl (cJ, 1, .inr (.inl g)))] 6 36 := by
  have iX2 : ∀ w ∈ u_ws RX2 TX2 4, w ∈ wsL_parentOf := fun w h => List.mem_cons_of_mem _ (List.mem_append_left _ (List.mem_append_left _ (List.mem_append_right _ h)))
  have iX0 : ∀ w ∈ u_ws RX0 TX0 7, w ∈ wsL_parentOf := fun w h => List.mem_cons_of_mem _ (List.mem_append_left _ (List.mem_append_right _ h))
  have t242 : ∀ w ∈ (vx_atS "FableIndex" 242 z_IOB ["java/lang/RuntimeException", "java/lang/Exception"]).filter goodWord, w ∈ wsL_parentOf := fun w h => List.mem_cons_of_mem _ (List.mem_append_right _ h)
  refine z_ofWXH (hh := [(0, 9, 12, 13)]) (cc := cL_parentOf) (nL := 4) (ret := (some .int)) (by decide) rfl (Nat.le_of_ble_eq_true rfl) [3] rfl (lv0 := [(0, .ref aX), (1, .int w), (2, .ref aO)]) rfl ?_
  intro p e s m args below meth c K htab
  refine z_aload_n K 2 dL_parentOf_0 rfl ?_
  refine z_iconst (v := 0) K dL_parentOf_1 (by decide) ?_
  refine z_aload_n K 0 dL_parentOf_2 rfl ?_
  refine z_iload_n K 1 dL_parentOf_3 rfl ?_
  refine z_callVX (ws' := [(aX, .inr (2, [.ref aB, .ref aL, .ref aT, .int se])), (aB, .inr (0, [.int (nI n), .ref aB0, .ref aB1, .ref aB2, .ref aB3, .ref aB4, .ref aB5])), (aB3, .inl (cI, 20, .inl fp)), (aO, .inl (cJ, 1, .inr (.inl g)))]) (st' := [.int (fp (ix w)), .int 0, .ref aO]) (rest := [.int 0, .ref aO]) (C := RX2) (T := TX2) (N := 4) K (m_X2_parentOf l G D cI cJ aX w aB aL aT se n aB0 aB1 aB2 aB3 aB4 aB5 fp (by omega)) gL_parentOf_X2_parentOf rfl 1 2 (by decide +kernel) rfl dL_parentOf_4 [0, 1, 2] 0 [] [] rfl rfl rfl ⟨by decide, by decide⟩ ⟨by decide, by decide⟩ rfl rfl rfl rfl rfl (Nat.le_of_ble_eq_true rfl) rfl rfl rfl rfl rfl rfl rfl (fun E hE => ?_) (fun hk => absurd hk hcd)
  rcases hE with ⟨h9, rfl⟩ | ⟨h9, rfl⟩
  · refine zx_catch (name := "java/lang/IndexOutOfBoundsException") K htab [] ⟨0, 9, 12, 13⟩ [] rfl (fun _ h => absurd h List.not_mem_nil) (by decide) (by decide) (by decide +kernel) (by decide) (fun q => ?_)
    refine z_astore_n (lv' := [(3, .ref q), (0, .ref aX), (1, .int w), (2, .ref aO)]) K dL_parentOf_12 (by decide) rfl ?_
    refine z_iconst (v := 1) K dL_parentOf_13 (by decide) ?_
    exact z_iretX K trivial dL_parentOf_14 (by rw [h9]; rfl) [3] rfl (by decide) (by decide)
  · exact absurd h9 cd1_ne2

set_option maxRecDepth 100000 in
set_option maxHeartbeats 4000000 in
theorem w0_L_variantsOf (l : Launch) (G : Nat → Prop) (D : va_G) (cI cJ : ClassId) (aX : Nat) (w : Int32) (aO : Nat) (aB : Nat) (aL : Nat) (aT : Nat) (se : Int32) (n : Nat) (aB0 : Nat) (aB1 : Nat) (aB2 : Nat) (aB3 : Nat) (aB4 : Nat) (aB5 : Nat) (fv : Nat → Int32) (g : Nat → Int64) (hn : n ≤ 20) (hcd : cd1 (fin w n) = 0) : z_MX l yL_variantsOf wsL_variantsOf { frames := 8, cells := 6, slots := 36, locals := 124 } G D [(cI, .int), (cJ, .long)] [.ref aX, .int w, .ref aO] [(aX, .inr (2, [.ref aB, .ref aL, .ref aT, .int se])), (aB, .inr (0, [.int (nI n), .ref aB0, .ref aB1, .ref aB2, .ref aB3, .ref aB4, .ref aB5])), (aB4, .inl (cI, 20, .inl fv)), (aO, .inl (cJ, 1, .inr (.inl g)))] (True) (some (.int 0)) [(aO, .inl (cJ, 1, .inr (.inl (vp_updL g 0 (Int32.toInt64 (pc (fv (ix w))))))))] (fun _ : String => False) [(aO, .inl (cJ, 1, .inr (.inl g)))] 6 36 := by
  have iX2 : ∀ w ∈ u_ws RX2 TX2 4, w ∈ wsL_variantsOf := fun w h => List.mem_cons_of_mem _ (List.mem_append_left _ (List.mem_append_left _ (List.mem_append_right _ h)))
  have iX0 : ∀ w ∈ u_ws RX0 TX0 7, w ∈ wsL_variantsOf := fun w h => List.mem_cons_of_mem _ (List.mem_append_left _ (List.mem_append_right _ h))
  have t242 : ∀ w ∈ (vx_atS "FableIndex" 242 z_IOB ["java/lang/RuntimeException", "java/lang/Exception"]).filter goodWord, w ∈ wsL_variantsOf := fun w h => List.mem_cons_of_mem _ (List.mem_append_right _ h)
  refine z_ofWXH (hh := [(0, 9, 12, 13)]) (cc := cL_variantsOf) (nL := 4) (ret := (some .int)) (by decide) rfl (Nat.le_of_ble_eq_true rfl) [3] rfl (lv0 := [(0, .ref aX), (1, .int w), (2, .ref aO)]) rfl ?_
  intro p e s m args below meth c K htab
  refine z_aload_n K 2 dL_variantsOf_0 rfl ?_
  refine z_iconst (v := 0) K dL_variantsOf_1 (by decide) ?_
  refine z_aload_n K 0 dL_variantsOf_2 rfl ?_
  refine z_iload_n K 1 dL_variantsOf_3 rfl ?_
  refine z_callVX (ws' := [(aX, .inr (2, [.ref aB, .ref aL, .ref aT, .int se])), (aB, .inr (0, [.int (nI n), .ref aB0, .ref aB1, .ref aB2, .ref aB3, .ref aB4, .ref aB5])), (aB4, .inl (cI, 20, .inl fv)), (aO, .inl (cJ, 1, .inr (.inl g)))]) (st' := [.int (pc (fv (ix w))), .int 0, .ref aO]) (rest := [.int 0, .ref aO]) (C := RX2) (T := TX2) (N := 4) K (m_X2_variantsOf l G D cI cJ aX w aB aL aT se n aB0 aB1 aB2 aB3 aB4 aB5 fv (by omega)) gL_variantsOf_X2_variantsOf rfl 1 2 (by decide +kernel) rfl dL_variantsOf_4 [0, 1, 2] 0 [] [] rfl rfl rfl ⟨by decide, by decide⟩ ⟨by decide, by decide⟩ rfl rfl rfl rfl rfl (Nat.le_of_ble_eq_true rfl) rfl rfl rfl rfl rfl rfl rfl (fun E hE => zx_no hcd hE) (fun _ => ?_)
  refine z_i2l K dL_variantsOf_7 ?_
  refine z_lastN K 3 1 0 (by omega) (by omega) rfl rfl dL_variantsOf_8 (z_memA 0 rfl) (ws' := [(aX, .inr (2, [.ref aB, .ref aL, .ref aT, .int se])), (aB, .inr (0, [.int (nI n), .ref aB0, .ref aB1, .ref aB2, .ref aB3, .ref aB4, .ref aB5])), (aB4, .inl (cI, 20, .inl fv)), (aO, .inl (cJ, 1, .inr (.inl (vp_updL g 0 (Int32.toInt64 (pc (fv (ix w))))))))]) rfl ?_
  refine z_goto K 15 dL_variantsOf_9 (by decide) ?_
  refine z_iconst (v := 0) K dL_variantsOf_15 (by decide) ?_
  exact z_iretX K trivial dL_variantsOf_16 (rfl) [3] rfl (by decide) (by decide)

set_option maxRecDepth 100000 in
set_option maxHeartbeats 4000000 in
theorem w1_L_variantsOf (l : Launch) (G : Nat → Prop) (D : va_G) (cI cJ : ClassId) (aX : Nat) (w : Int32) (aO : Nat) (aB : Nat) (aL : Nat) (aT : Nat) (se : Int32) (n : Nat) (aB0 : Nat) (aB1 : Nat) (aB2 : Nat) (aB3 : Nat) (aB4 : Nat) (aB5 : Nat) (fv : Nat → Int32) (g : Nat → Int64) (hn : n ≤ 20) (hcd : ¬ cd1 (fin w n) = 0) : z_MX l yL_variantsOf wsL_variantsOf { frames := 8, cells := 6, slots := 36, locals := 124 } G D [(cI, .int), (cJ, .long)] [.ref aX, .int w, .ref aO] [(aX, .inr (2, [.ref aB, .ref aL, .ref aT, .int se])), (aB, .inr (0, [.int (nI n), .ref aB0, .ref aB1, .ref aB2, .ref aB3, .ref aB4, .ref aB5])), (aB4, .inl (cI, 20, .inl fv)), (aO, .inl (cJ, 1, .inr (.inl g)))] (True) (some (.int (nI (cd1 (fin w n))))) [(aO, .inl (cJ, 1, .inr (.inl g)))] (fun _ : String => False) [(aO, .inl (cJ, 1, .inr (.inl g)))] 6 36 := by
  have iX2 : ∀ w ∈ u_ws RX2 TX2 4, w ∈ wsL_variantsOf := fun w h => List.mem_cons_of_mem _ (List.mem_append_left _ (List.mem_append_left _ (List.mem_append_right _ h)))
  have iX0 : ∀ w ∈ u_ws RX0 TX0 7, w ∈ wsL_variantsOf := fun w h => List.mem_cons_of_mem _ (List.mem_append_left _ (List.mem_append_right _ h))
  have t242 : ∀ w ∈ (vx_atS "FableIndex" 242 z_IOB ["java/lang/RuntimeException", "java/lang/Exception"]).filter goodWord, w ∈ wsL_variantsOf := fun w h => List.mem_cons_of_mem _ (List.mem_append_right _ h)
  refine z_ofWXH (hh := [(0, 9, 12, 13)]) (cc := cL_variantsOf) (nL := 4) (ret := (some .int)) (by decide) rfl (Nat.le_of_ble_eq_true rfl) [3] rfl (lv0 := [(0, .ref aX), (1, .int w), (2, .ref aO)]) rfl ?_
  intro p e s m args below meth c K htab
  refine z_aload_n K 2 dL_variantsOf_0 rfl ?_
  refine z_iconst (v := 0) K dL_variantsOf_1 (by decide) ?_
  refine z_aload_n K 0 dL_variantsOf_2 rfl ?_
  refine z_iload_n K 1 dL_variantsOf_3 rfl ?_
  refine z_callVX (ws' := [(aX, .inr (2, [.ref aB, .ref aL, .ref aT, .int se])), (aB, .inr (0, [.int (nI n), .ref aB0, .ref aB1, .ref aB2, .ref aB3, .ref aB4, .ref aB5])), (aB4, .inl (cI, 20, .inl fv)), (aO, .inl (cJ, 1, .inr (.inl g)))]) (st' := [.int (pc (fv (ix w))), .int 0, .ref aO]) (rest := [.int 0, .ref aO]) (C := RX2) (T := TX2) (N := 4) K (m_X2_variantsOf l G D cI cJ aX w aB aL aT se n aB0 aB1 aB2 aB3 aB4 aB5 fv (by omega)) gL_variantsOf_X2_variantsOf rfl 1 2 (by decide +kernel) rfl dL_variantsOf_4 [0, 1, 2] 0 [] [] rfl rfl rfl ⟨by decide, by decide⟩ ⟨by decide, by decide⟩ rfl rfl rfl rfl rfl (Nat.le_of_ble_eq_true rfl) rfl rfl rfl rfl rfl rfl rfl (fun E hE => ?_) (fun hk => absurd hk hcd)
  rcases hE with ⟨h9, rfl⟩ | ⟨h9, rfl⟩
  · refine zx_catch (name := "java/lang/IndexOutOfBoundsException") K htab [] ⟨0, 9, 12, 13⟩ [] rfl (fun _ h => absurd h List.not_mem_nil) (by decide) (by decide) (by decide +kernel) (by decide) (fun q => ?_)
    refine z_astore_n (lv' := [(3, .ref q), (0, .ref aX), (1, .int w), (2, .ref aO)]) K dL_variantsOf_12 (by decide) rfl ?_
    refine z_iconst (v := 1) K dL_variantsOf_13 (by decide) ?_
    exact z_iretX K trivial dL_variantsOf_14 (by rw [h9]; rfl) [3] rfl (by decide) (by decide)
  · exact absurd h9 cd1_ne2

set_option maxRecDepth 100000 in
set_option maxHeartbeats 4000000 in
theorem w0_L_valleysOf (l : Launch) (G : Nat → Prop) (D : va_G) (cI cJ : ClassId) (aX : Nat) (w : Int32) (aO : Nat) (aB : Nat) (aL : Nat) (aT : Nat) (se : Int32) (n : Nat) (aB0 : Nat) (aB1 : Nat) (aB2 : Nat) (aB3 : Nat) (aB4 : Nat) (aB5 : Nat) (aL0 : Nat) (aL1 : Nat) (aL2 : Nat) (aL3 : Nat) (aL4 : Nat) (aL5 : Nat) (hu : Int32) (lt : Nat → Int32) (g : Nat → Int64) (hn : n ≤ 20) (hcd : cd1 (fin w n) = 0) : z_MX l yL_valleysOf wsL_valleysOf { frames := 8, cells := 6, slots := 36, locals := 124 } G D [(cI, .int), (cJ, .long)] [.ref aX, .int w, .ref aO] [(aX, .inr (2, [.ref aB, .ref aL, .ref aT, .int se])), (aB, .inr (0, [.int (nI n), .ref aB0, .ref aB1, .ref aB2, .ref aB3, .ref aB4, .ref aB5])), (aL, .inr (1, [.ref aL0, .ref aL1, .ref aL2, .ref aL3, .ref aL4, .ref aL5, .int hu])), (aL3, .inl (cI, 6, .inl lt)), (aO, .inl (cJ, 1, .inr (.inl g)))] (True) (some (.int 0)) [(aO, .inl (cJ, 1, .inr (.inl (vp_updL g 0 (Int32.toInt64 (cntS lt ((1 : Int32) <<< (w &&& 31)) 6))))))] (fun _ : String => False) [(aO, .inl (cJ, 1, .inr (.inl g)))] 6 36 := by
  have iX2 : ∀ w ∈ u_ws RX2 TX2 4, w ∈ wsL_valleysOf := fun w h => List.mem_cons_of_mem _ (List.mem_append_left _ (List.mem_append_left _ (List.mem_append_left _ (List.mem_append_right _ h))))
  have iX0 : ∀ w ∈ u_ws RX0 TX0 7, w ∈ wsL_valleysOf := fun w h => List.mem_cons_of_mem _ (List.mem_append_left _ (List.mem_append_left _ (List.mem_append_right _ h)))
  have iX1 : ∀ w ∈ u_ws RX1 TX1 7, w ∈ wsL_valleysOf := fun w h => List.mem_cons_of_mem _ (List.mem_append_left _ (List.mem_append_right _ h))
  have t242 : ∀ w ∈ (vx_atS "FableIndex" 242 z_IOB ["java/lang/RuntimeException", "java/lang/Exception"]).filter goodWord, w ∈ wsL_valleysOf := fun w h => List.mem_cons_of_mem _ (List.mem_append_right _ h)
  refine z_ofWXH (hh := [(0, 9, 12, 13)]) (cc := cL_valleysOf) (nL := 4) (ret := (some .int)) (by decide) rfl (Nat.le_of_ble_eq_true rfl) [4] rfl (lv0 := [(0, .ref aX), (1, .int w), (2, .ref aO)]) rfl ?_
  intro p e s m args below meth c K htab
  refine z_aload_n K 2 dL_valleysOf_0 rfl ?_
  refine z_iconst (v := 0) K dL_valleysOf_1 (by decide) ?_
  refine z_aload_n K 0 dL_valleysOf_2 rfl ?_
  refine z_iload_n K 1 dL_valleysOf_3 rfl ?_
  refine z_callVX (ws' := [(aX, .inr (2, [.ref aB, .ref aL, .ref aT, .int se])), (aB, .inr (0, [.int (nI n), .ref aB0, .ref aB1, .ref aB2, .ref aB3, .ref aB4, .ref aB5])), (aL, .inr (1, [.ref aL0, .ref aL1, .ref aL2, .ref aL3, .ref aL4, .ref aL5, .int hu])), (aL3, .inl (cI, 6, .inl lt)), (aO, .inl (cJ, 1, .inr (.inl g)))]) (st' := [.int (cntS lt ((1 : Int32) <<< (w &&& 31)) 6), .int 0, .ref aO]) (rest := [.int 0, .ref aO]) (C := RX2) (T := TX2) (N := 4) K (m_X2_valleysOf l G D cI cJ aX w aB aL aT se n aB0 aB1 aB2 aB3 aB4 aB5 aL0 aL1 aL2 aL3 aL4 aL5 hu lt (by omega)) gL_valleysOf_X2_valleysOf rfl 1 2 (by decide +kernel) rfl dL_valleysOf_4 [0, 1, 2, 3] 0 [] [] rfl rfl rfl ⟨by decide, by decide⟩ ⟨by decide, by decide⟩ rfl rfl rfl rfl rfl (Nat.le_of_ble_eq_true rfl) rfl rfl rfl rfl rfl rfl rfl (fun E hE => zx_no hcd hE) (fun _ => ?_)
  refine z_i2l K dL_valleysOf_7 ?_
  refine z_lastN K 4 1 0 (by omega) (by omega) rfl rfl dL_valleysOf_8 (z_memA 0 rfl) (ws' := [(aX, .inr (2, [.ref aB, .ref aL, .ref aT, .int se])), (aB, .inr (0, [.int (nI n), .ref aB0, .ref aB1, .ref aB2, .ref aB3, .ref aB4, .ref aB5])), (aL, .inr (1, [.ref aL0, .ref aL1, .ref aL2, .ref aL3, .ref aL4, .ref aL5, .int hu])), (aL3, .inl (cI, 6, .inl lt)), (aO, .inl (cJ, 1, .inr (.inl (vp_updL g 0 (Int32.toInt64 (cntS lt ((1 : Int32) <<< (w &&& 31)) 6))))))]) rfl ?_
  refine z_goto K 15 dL_valleysOf_9 (by decide) ?_
  refine z_iconst (v := 0) K dL_valleysOf_15 (by decide) ?_
  exact z_iretX K trivial dL_valleysOf_16 (rfl) [4] rfl (by decide) (by decide)

set_option maxRecDepth 100000 in
set_option maxHeartbeats 4000000 in
theorem w1_L_valleysOf (l : Launch) (G : Nat → Prop) (D : va_G) (cI cJ : ClassId) (aX : Nat) (w : Int32) (aO : Nat) (aB : Nat) (aL : Nat) (aT : Nat) (se : Int32) (n : Nat) (aB0 : Nat) (aB1 : Nat) (aB2 : Nat) (aB3 : Nat) (aB4 : Nat) (aB5 : Nat) (aL0 : Nat) (aL1 : Nat) (aL2 : Nat) (aL3 : Nat) (aL4 : Nat) (aL5 : Nat) (hu : Int32) (lt : Nat → Int32) (g : Nat → Int64) (hn : n ≤ 20) (hcd : ¬ cd1 (fin w n) = 0) : z_MX l yL_valleysOf wsL_valleysOf { frames := 8, cells := 6, slots := 36, locals := 124 } G D [(cI, .int), (cJ, .long)] [.ref aX, .int w, .ref aO] [(aX, .inr (2, [.ref aB, .ref aL, .ref aT, .int se])), (aB, .inr (0, [.int (nI n), .ref aB0, .ref aB1, .ref aB2, .ref aB3, .ref aB4, .ref aB5])), (aL, .inr (1, [.ref aL0, .ref aL1, .ref aL2, .ref aL3, .ref aL4, .ref aL5, .int hu])), (aL3, .inl (cI, 6, .inl lt)), (aO, .inl (cJ, 1, .inr (.inl g)))] (True) (some (.int (nI (cd1 (fin w n))))) [(aO, .inl (cJ, 1, .inr (.inl g)))] (fun _ : String => False) [(aO, .inl (cJ, 1, .inr (.inl g)))] 6 36 := by
  have iX2 : ∀ w ∈ u_ws RX2 TX2 4, w ∈ wsL_valleysOf := fun w h => List.mem_cons_of_mem _ (List.mem_append_left _ (List.mem_append_left _ (List.mem_append_left _ (List.mem_append_right _ h))))
  have iX0 : ∀ w ∈ u_ws RX0 TX0 7, w ∈ wsL_valleysOf := fun w h => List.mem_cons_of_mem _ (List.mem_append_left _ (List.mem_append_left _ (List.mem_append_right _ h)))
  have iX1 : ∀ w ∈ u_ws RX1 TX1 7, w ∈ wsL_valleysOf := fun w h => List.mem_cons_of_mem _ (List.mem_append_left _ (List.mem_append_right _ h))
  have t242 : ∀ w ∈ (vx_atS "FableIndex" 242 z_IOB ["java/lang/RuntimeException", "java/lang/Exception"]).filter goodWord, w ∈ wsL_valleysOf := fun w h => List.mem_cons_of_mem _ (List.mem_append_right _ h)
  refine z_ofWXH (hh := [(0, 9, 12, 13)]) (cc := cL_valleysOf) (nL := 4) (ret := (some .int)) (by decide) rfl (Nat.le_of_ble_eq_true rfl) [4] rfl (lv0 := [(0, .ref aX), (1, .int w), (2, .ref aO)]) rfl ?_
  intro p e s m args below meth c K htab
  refine z_aload_n K 2 dL_valleysOf_0 rfl ?_
  refine z_iconst (v := 0) K dL_valleysOf_1 (by decide) ?_
  refine z_aload_n K 0 dL_valleysOf_2 rfl ?_
  refine z_iload_n K 1 dL_valleysOf_3 rfl ?_
  refine z_callVX (ws' := [(aX, .inr (2, [.ref aB, .ref aL, .ref aT, .int se])), (aB, .inr (0, [.int (nI n), .ref aB0, .ref aB1, .ref aB2, .ref aB3, .ref aB4, .ref aB5])), (aL, .inr (1, [.ref aL0, .ref aL1, .ref aL2, .ref aL3, .ref aL4, .ref aL5, .int hu])), (aL3, .inl (cI, 6, .inl lt)), (aO, .inl (cJ, 1, .inr (.inl g)))]) (st' := [.int (cntS lt ((1 : Int32) <<< (w &&& 31)) 6), .int 0, .ref aO]) (rest := [.int 0, .ref aO]) (C := RX2) (T := TX2) (N := 4) K (m_X2_valleysOf l G D cI cJ aX w aB aL aT se n aB0 aB1 aB2 aB3 aB4 aB5 aL0 aL1 aL2 aL3 aL4 aL5 hu lt (by omega)) gL_valleysOf_X2_valleysOf rfl 1 2 (by decide +kernel) rfl dL_valleysOf_4 [0, 1, 2, 3] 0 [] [] rfl rfl rfl ⟨by decide, by decide⟩ ⟨by decide, by decide⟩ rfl rfl rfl rfl rfl (Nat.le_of_ble_eq_true rfl) rfl rfl rfl rfl rfl rfl rfl (fun E hE => ?_) (fun hk => absurd hk hcd)
  rcases hE with ⟨h9, rfl⟩ | ⟨h9, rfl⟩
  · refine zx_catch (name := "java/lang/IndexOutOfBoundsException") K htab [] ⟨0, 9, 12, 13⟩ [] rfl (fun _ h => absurd h List.not_mem_nil) (by decide) (by decide) (by decide +kernel) (by decide) (fun q => ?_)
    refine z_astore_n (lv' := [(3, .ref q), (0, .ref aX), (1, .int w), (2, .ref aO)]) K dL_valleysOf_12 (by decide) rfl ?_
    refine z_iconst (v := 1) K dL_valleysOf_13 (by decide) ?_
    exact z_iretX K trivial dL_valleysOf_14 (by rw [h9]; rfl) [4] rfl (by decide) (by decide)
  · exact absurd h9 cd1_ne2

set_option maxRecDepth 100000 in
set_option maxHeartbeats 4000000 in
theorem w0_L_nearestAncestor (l : Launch) (G : Nat → Prop) (D : va_G) (cI cJ : ClassId) (aX : Nat) (w : Int32) (x : Int32) (aO : Nat) (aB : Nat) (aL : Nat) (aT : Nat) (se : Int32) (n : Nat) (aB0 : Nat) (aB1 : Nat) (aB2 : Nat) (aB3 : Nat) (aB4 : Nat) (aB5 : Nat) (fa : Nat → Int32) (g : Nat → Int64) (hn : n ≤ 20) (hcd : cd1 (fin w n && fin x n) = 0) : z_MX l yL_nearestAncestor wsL_nearestAncestor { frames := 8, cells := 6, slots := 36, locals := 125 } G D [(cI, .int), (cJ, .long)] [.ref aX, .int w, .int x, .ref aO] [(aX, .inr (2, [.ref aB, .ref aL, .ref aT, .int se])), (aB, .inr (0, [.int (nI n), .ref aB0, .ref aB1, .ref aB2, .ref aB3, .ref aB4, .ref aB5])), (aB5, .inl (cI, 20, .inl fa)), (aO, .inl (cJ, 1, .inr (.inl g)))] (True) (some (.int 0)) [(aO, .inl (cJ, 1, .inr (.inl (vp_updL g 0 (Int32.toInt64 (grF ((fa (ix w)) &&& (fa (ix x))) 20))))))] (fun _ : String => False) [(aO, .inl (cJ, 1, .inr (.inl g)))] 6 36 := by
  have iX2 : ∀ w ∈ u_ws RX2 TX2 4, w ∈ wsL_nearestAncestor := fun w h => List.mem_cons_of_mem _ (List.mem_append_left _ (List.mem_append_left _ (List.mem_append_right _ h)))
  have iX0 : ∀ w ∈ u_ws RX0 TX0 7, w ∈ wsL_nearestAncestor := fun w h => List.mem_cons_of_mem _ (List.mem_append_left _ (List.mem_append_right _ h))
  have t242 : ∀ w ∈ (vx_atS "FableIndex" 242 z_IOB ["java/lang/RuntimeException", "java/lang/Exception"]).filter goodWord, w ∈ wsL_nearestAncestor := fun w h => List.mem_cons_of_mem _ (List.mem_append_right _ h)
  refine z_ofWXH (hh := [(0, 10, 13, 13)]) (cc := cL_nearestAncestor) (nL := 5) (ret := (some .int)) (by decide) rfl (Nat.le_of_ble_eq_true rfl) [3] rfl (lv0 := [(0, .ref aX), (1, .int w), (2, .int x), (3, .ref aO)]) rfl ?_
  intro p e s m args below meth c K htab
  refine z_aload_n K 3 dL_nearestAncestor_0 rfl ?_
  refine z_iconst (v := 0) K dL_nearestAncestor_1 (by decide) ?_
  refine z_aload_n K 0 dL_nearestAncestor_2 rfl ?_
  refine z_iload_n K 1 dL_nearestAncestor_3 rfl ?_
  refine z_iload_n K 2 dL_nearestAncestor_4 rfl ?_
  refine z_callVX (ws' := [(aX, .inr (2, [.ref aB, .ref aL, .ref aT, .int se])), (aB, .inr (0, [.int (nI n), .ref aB0, .ref aB1, .ref aB2, .ref aB3, .ref aB4, .ref aB5])), (aB5, .inl (cI, 20, .inl fa)), (aO, .inl (cJ, 1, .inr (.inl g)))]) (st' := [.int (grF ((fa (ix w)) &&& (fa (ix x))) 20), .int 0, .ref aO]) (rest := [.int 0, .ref aO]) (C := RX2) (T := TX2) (N := 4) K (m_X2_nearestAncestor l G D cI cJ aX w x aB aL aT se n aB0 aB1 aB2 aB3 aB4 aB5 fa (by omega)) gL_nearestAncestor_X2_nearestAncestor rfl 2 2 (by decide +kernel) rfl dL_nearestAncestor_5 [0, 1, 2] 0 [] [] rfl rfl rfl ⟨by decide, by decide⟩ ⟨by decide, by decide⟩ rfl rfl rfl rfl rfl (Nat.le_of_ble_eq_true rfl) rfl rfl rfl rfl rfl rfl rfl (fun E hE => zx_no hcd hE) (fun _ => ?_)
  refine z_i2l K dL_nearestAncestor_8 ?_
  refine z_lastN K 3 1 0 (by omega) (by omega) rfl rfl dL_nearestAncestor_9 (z_memA 0 rfl) (ws' := [(aX, .inr (2, [.ref aB, .ref aL, .ref aT, .int se])), (aB, .inr (0, [.int (nI n), .ref aB0, .ref aB1, .ref aB2, .ref aB3, .ref aB4, .ref aB5])), (aB5, .inl (cI, 20, .inl fa)), (aO, .inl (cJ, 1, .inr (.inl (vp_updL g 0 (Int32.toInt64 (grF ((fa (ix w)) &&& (fa (ix x))) 20))))))]) rfl ?_
  refine z_goto K 17 dL_nearestAncestor_10 (by decide) ?_
  refine z_iconst (v := 0) K dL_nearestAncestor_17 (by decide) ?_
  exact z_iretX K trivial dL_nearestAncestor_18 (rfl) [3] rfl (by decide) (by decide)

set_option maxRecDepth 100000 in
set_option maxHeartbeats 4000000 in
theorem w1_L_nearestAncestor (l : Launch) (G : Nat → Prop) (D : va_G) (cI cJ : ClassId) (aX : Nat) (w : Int32) (x : Int32) (aO : Nat) (aB : Nat) (aL : Nat) (aT : Nat) (se : Int32) (n : Nat) (aB0 : Nat) (aB1 : Nat) (aB2 : Nat) (aB3 : Nat) (aB4 : Nat) (aB5 : Nat) (fa : Nat → Int32) (g : Nat → Int64) (hn : n ≤ 20) (hcd : ¬ cd1 (fin w n && fin x n) = 0) : z_MX l yL_nearestAncestor wsL_nearestAncestor { frames := 8, cells := 6, slots := 36, locals := 125 } G D [(cI, .int), (cJ, .long)] [.ref aX, .int w, .int x, .ref aO] [(aX, .inr (2, [.ref aB, .ref aL, .ref aT, .int se])), (aB, .inr (0, [.int (nI n), .ref aB0, .ref aB1, .ref aB2, .ref aB3, .ref aB4, .ref aB5])), (aB5, .inl (cI, 20, .inl fa)), (aO, .inl (cJ, 1, .inr (.inl g)))] (True) (some (.int (nI (cd1 (fin w n && fin x n))))) [(aO, .inl (cJ, 1, .inr (.inl g)))] (fun _ : String => False) [(aO, .inl (cJ, 1, .inr (.inl g)))] 6 36 := by
  have iX2 : ∀ w ∈ u_ws RX2 TX2 4, w ∈ wsL_nearestAncestor := fun w h => List.mem_cons_of_mem _ (List.mem_append_left _ (List.mem_append_left _ (List.mem_append_right _ h)))
  have iX0 : ∀ w ∈ u_ws RX0 TX0 7, w ∈ wsL_nearestAncestor := fun w h => List.mem_cons_of_mem _ (List.mem_append_left _ (List.mem_append_right _ h))
  have t242 : ∀ w ∈ (vx_atS "FableIndex" 242 z_IOB ["java/lang/RuntimeException", "java/lang/Exception"]).filter goodWord, w ∈ wsL_nearestAncestor := fun w h => List.mem_cons_of_mem _ (List.mem_append_right _ h)
  refine z_ofWXH (hh := [(0, 10, 13, 13)]) (cc := cL_nearestAncestor) (nL := 5) (ret := (some .int)) (by decide) rfl (Nat.le_of_ble_eq_true rfl) [3] rfl (lv0 := [(0, .ref aX), (1, .int w), (2, .int x), (3, .ref aO)]) rfl ?_
  intro p e s m args below meth c K htab
  refine z_aload_n K 3 dL_nearestAncestor_0 rfl ?_
  refine z_iconst (v := 0) K dL_nearestAncestor_1 (by decide) ?_
  refine z_aload_n K 0 dL_nearestAncestor_2 rfl ?_
  refine z_iload_n K 1 dL_nearestAncestor_3 rfl ?_
  refine z_iload_n K 2 dL_nearestAncestor_4 rfl ?_
  refine z_callVX (ws' := [(aX, .inr (2, [.ref aB, .ref aL, .ref aT, .int se])), (aB, .inr (0, [.int (nI n), .ref aB0, .ref aB1, .ref aB2, .ref aB3, .ref aB4, .ref aB5])), (aB5, .inl (cI, 20, .inl fa)), (aO, .inl (cJ, 1, .inr (.inl g)))]) (st' := [.int (grF ((fa (ix w)) &&& (fa (ix x))) 20), .int 0, .ref aO]) (rest := [.int 0, .ref aO]) (C := RX2) (T := TX2) (N := 4) K (m_X2_nearestAncestor l G D cI cJ aX w x aB aL aT se n aB0 aB1 aB2 aB3 aB4 aB5 fa (by omega)) gL_nearestAncestor_X2_nearestAncestor rfl 2 2 (by decide +kernel) rfl dL_nearestAncestor_5 [0, 1, 2] 0 [] [] rfl rfl rfl ⟨by decide, by decide⟩ ⟨by decide, by decide⟩ rfl rfl rfl rfl rfl (Nat.le_of_ble_eq_true rfl) rfl rfl rfl rfl rfl rfl rfl (fun E hE => ?_) (fun hk => absurd hk hcd)
  rcases hE with ⟨h9, rfl⟩ | ⟨h9, rfl⟩
  · refine zx_catch (name := "java/lang/IndexOutOfBoundsException") K htab [] ⟨0, 10, 13, 13⟩ [] rfl (fun _ h => absurd h List.not_mem_nil) (by decide) (by decide) (by decide +kernel) (by decide) (fun q => ?_)
    refine z_astore (lv' := [(4, .ref q), (0, .ref aX), (1, .int w), (2, .int x), (3, .ref aO)]) K dL_nearestAncestor_13 (by decide) rfl ?_
    refine z_iconst (v := 1) K dL_nearestAncestor_15 (by decide) ?_
    exact z_iretX K trivial dL_nearestAncestor_16 (by rw [h9]; rfl) [3] rfl (by decide) (by decide)
  · exact absurd h9 cd1_ne2

set_option maxRecDepth 100000 in
set_option maxHeartbeats 4000000 in
theorem w0_L_kinship (l : Launch) (G : Nat → Prop) (D : va_G) (cI cJ : ClassId) (aX : Nat) (w : Int32) (x : Int32) (aO : Nat) (aB : Nat) (aL : Nat) (aT : Nat) (se : Int32) (n : Nat) (aB0 : Nat) (aB1 : Nat) (aB2 : Nat) (aB3 : Nat) (aB4 : Nat) (aB5 : Nat) (fa : Nat → Int32) (g : Nat → Int64) (hn : n ≤ 20) (hcd : cd1 (fin w n && fin x n) = 0) : z_MX l yL_kinship wsL_kinship { frames := 8, cells := 6, slots := 36, locals := 125 } G D [(cI, .int), (cJ, .long)] [.ref aX, .int w, .int x, .ref aO] [(aX, .inr (2, [.ref aB, .ref aL, .ref aT, .int se])), (aB, .inr (0, [.int (nI n), .ref aB0, .ref aB1, .ref aB2, .ref aB3, .ref aB4, .ref aB5])), (aB5, .inl (cI, 20, .inl fa)), (aO, .inl (cJ, 1, .inr (.inl g)))] (True) (some (.int 0)) [(aO, .inl (cJ, 1, .inr (.inl (vp_updL g 0 (Int32.toInt64 (kinS (fa (ix w)) (fa (ix x))))))))] (fun _ : String => False) [(aO, .inl (cJ, 1, .inr (.inl g)))] 6 36 := by
  have iX2 : ∀ w ∈ u_ws RX2 TX2 4, w ∈ wsL_kinship := fun w h => List.mem_cons_of_mem _ (List.mem_append_left _ (List.mem_append_left _ (List.mem_append_right _ h)))
  have iX0 : ∀ w ∈ u_ws RX0 TX0 7, w ∈ wsL_kinship := fun w h => List.mem_cons_of_mem _ (List.mem_append_left _ (List.mem_append_right _ h))
  have t242 : ∀ w ∈ (vx_atS "FableIndex" 242 z_IOB ["java/lang/RuntimeException", "java/lang/Exception"]).filter goodWord, w ∈ wsL_kinship := fun w h => List.mem_cons_of_mem _ (List.mem_append_right _ h)
  refine z_ofWXH (hh := [(0, 10, 13, 13)]) (cc := cL_kinship) (nL := 5) (ret := (some .int)) (by decide) rfl (Nat.le_of_ble_eq_true rfl) [3] rfl (lv0 := [(0, .ref aX), (1, .int w), (2, .int x), (3, .ref aO)]) rfl ?_
  intro p e s m args below meth c K htab
  refine z_aload_n K 3 dL_kinship_0 rfl ?_
  refine z_iconst (v := 0) K dL_kinship_1 (by decide) ?_
  refine z_aload_n K 0 dL_kinship_2 rfl ?_
  refine z_iload_n K 1 dL_kinship_3 rfl ?_
  refine z_iload_n K 2 dL_kinship_4 rfl ?_
  refine z_callVX (ws' := [(aX, .inr (2, [.ref aB, .ref aL, .ref aT, .int se])), (aB, .inr (0, [.int (nI n), .ref aB0, .ref aB1, .ref aB2, .ref aB3, .ref aB4, .ref aB5])), (aB5, .inl (cI, 20, .inl fa)), (aO, .inl (cJ, 1, .inr (.inl g)))]) (st' := [.int (kinS (fa (ix w)) (fa (ix x))), .int 0, .ref aO]) (rest := [.int 0, .ref aO]) (C := RX2) (T := TX2) (N := 4) K (m_X2_kinship l G D cI cJ aX w x aB aL aT se n aB0 aB1 aB2 aB3 aB4 aB5 fa (by omega)) gL_kinship_X2_kinship rfl 2 2 (by decide +kernel) rfl dL_kinship_5 [0, 1, 2] 0 [] [] rfl rfl rfl ⟨by decide, by decide⟩ ⟨by decide, by decide⟩ rfl rfl rfl rfl rfl (Nat.le_of_ble_eq_true rfl) rfl rfl rfl rfl rfl rfl rfl (fun E hE => zx_no hcd hE) (fun _ => ?_)
  refine z_i2l K dL_kinship_8 ?_
  refine z_lastN K 3 1 0 (by omega) (by omega) rfl rfl dL_kinship_9 (z_memA 0 rfl) (ws' := [(aX, .inr (2, [.ref aB, .ref aL, .ref aT, .int se])), (aB, .inr (0, [.int (nI n), .ref aB0, .ref aB1, .ref aB2, .ref aB3, .ref aB4, .ref aB5])), (aB5, .inl (cI, 20, .inl fa)), (aO, .inl (cJ, 1, .inr (.inl (vp_updL g 0 (Int32.toInt64 (kinS (fa (ix w)) (fa (ix x))))))))]) rfl ?_
  refine z_goto K 17 dL_kinship_10 (by decide) ?_
  refine z_iconst (v := 0) K dL_kinship_17 (by decide) ?_
  exact z_iretX K trivial dL_kinship_18 (rfl) [3] rfl (by decide) (by decide)

set_option maxRecDepth 100000 in
set_option maxHeartbeats 4000000 in
theorem w1_L_kinship (l : Launch) (G : Nat → Prop) (D : va_G) (cI cJ : ClassId) (aX : Nat) (w : Int32) (x : Int32) (aO : Nat) (aB : Nat) (aL : Nat) (aT : Nat) (se : Int32) (n : Nat) (aB0 : Nat) (aB1 : Nat) (aB2 : Nat) (aB3 : Nat) (aB4 : Nat) (aB5 : Nat) (fa : Nat → Int32) (g : Nat → Int64) (hn : n ≤ 20) (hcd : ¬ cd1 (fin w n && fin x n) = 0) : z_MX l yL_kinship wsL_kinship { frames := 8, cells := 6, slots := 36, locals := 125 } G D [(cI, .int), (cJ, .long)] [.ref aX, .int w, .int x, .ref aO] [(aX, .inr (2, [.ref aB, .ref aL, .ref aT, .int se])), (aB, .inr (0, [.int (nI n), .ref aB0, .ref aB1, .ref aB2, .ref aB3, .ref aB4, .ref aB5])), (aB5, .inl (cI, 20, .inl fa)), (aO, .inl (cJ, 1, .inr (.inl g)))] (True) (some (.int (nI (cd1 (fin w n && fin x n))))) [(aO, .inl (cJ, 1, .inr (.inl g)))] (fun _ : String => False) [(aO, .inl (cJ, 1, .inr (.inl g)))] 6 36 := by
  have iX2 : ∀ w ∈ u_ws RX2 TX2 4, w ∈ wsL_kinship := fun w h => List.mem_cons_of_mem _ (List.mem_append_left _ (List.mem_append_left _ (List.mem_append_right _ h)))
  have iX0 : ∀ w ∈ u_ws RX0 TX0 7, w ∈ wsL_kinship := fun w h => List.mem_cons_of_mem _ (List.mem_append_left _ (List.mem_append_right _ h))
  have t242 : ∀ w ∈ (vx_atS "FableIndex" 242 z_IOB ["java/lang/RuntimeException", "java/lang/Exception"]).filter goodWord, w ∈ wsL_kinship := fun w h => List.mem_cons_of_mem _ (List.mem_append_right _ h)
  refine z_ofWXH (hh := [(0, 10, 13, 13)]) (cc := cL_kinship) (nL := 5) (ret := (some .int)) (by decide) rfl (Nat.le_of_ble_eq_true rfl) [3] rfl (lv0 := [(0, .ref aX), (1, .int w), (2, .int x), (3, .ref aO)]) rfl ?_
  intro p e s m args below meth c K htab
  refine z_aload_n K 3 dL_kinship_0 rfl ?_
  refine z_iconst (v := 0) K dL_kinship_1 (by decide) ?_
  refine z_aload_n K 0 dL_kinship_2 rfl ?_
  refine z_iload_n K 1 dL_kinship_3 rfl ?_
  refine z_iload_n K 2 dL_kinship_4 rfl ?_
  refine z_callVX (ws' := [(aX, .inr (2, [.ref aB, .ref aL, .ref aT, .int se])), (aB, .inr (0, [.int (nI n), .ref aB0, .ref aB1, .ref aB2, .ref aB3, .ref aB4, .ref aB5])), (aB5, .inl (cI, 20, .inl fa)), (aO, .inl (cJ, 1, .inr (.inl g)))]) (st' := [.int (kinS (fa (ix w)) (fa (ix x))), .int 0, .ref aO]) (rest := [.int 0, .ref aO]) (C := RX2) (T := TX2) (N := 4) K (m_X2_kinship l G D cI cJ aX w x aB aL aT se n aB0 aB1 aB2 aB3 aB4 aB5 fa (by omega)) gL_kinship_X2_kinship rfl 2 2 (by decide +kernel) rfl dL_kinship_5 [0, 1, 2] 0 [] [] rfl rfl rfl ⟨by decide, by decide⟩ ⟨by decide, by decide⟩ rfl rfl rfl rfl rfl (Nat.le_of_ble_eq_true rfl) rfl rfl rfl rfl rfl rfl rfl (fun E hE => ?_) (fun hk => absurd hk hcd)
  rcases hE with ⟨h9, rfl⟩ | ⟨h9, rfl⟩
  · refine zx_catch (name := "java/lang/IndexOutOfBoundsException") K htab [] ⟨0, 10, 13, 13⟩ [] rfl (fun _ h => absurd h List.not_mem_nil) (by decide) (by decide) (by decide +kernel) (by decide) (fun q => ?_)
    refine z_astore (lv' := [(4, .ref q), (0, .ref aX), (1, .int w), (2, .int x), (3, .ref aO)]) K dL_kinship_13 (by decide) rfl ?_
    refine z_iconst (v := 1) K dL_kinship_15 (by decide) ?_
    exact z_iretX K trivial dL_kinship_16 (by rw [h9]; rfl) [3] rfl (by decide) (by decide)
  · exact absurd h9 cd1_ne2

set_option maxRecDepth 100000 in
set_option maxHeartbeats 4000000 in
theorem w0_L_sharedBeasts (l : Launch) (G : Nat → Prop) (D : va_G) (cI cJ : ClassId) (aX : Nat) (w : Int32) (x : Int32) (aO : Nat) (aB : Nat) (aL : Nat) (aT : Nat) (se : Int32) (n : Nat) (aB0 : Nat) (aB1 : Nat) (aB2 : Nat) (aB3 : Nat) (aB4 : Nat) (aB5 : Nat) (fb : Nat → Int32) (g : Nat → Int64) (hn : n ≤ 20) (hcd : cd1 (fin w n && fin x n) = 0) : z_MX l yL_sharedBeasts wsL_sharedBeasts { frames := 8, cells := 6, slots := 36, locals := 125 } G D [(cI, .int), (cJ, .long)] [.ref aX, .int w, .int x, .ref aO] [(aX, .inr (2, [.ref aB, .ref aL, .ref aT, .int se])), (aB, .inr (0, [.int (nI n), .ref aB0, .ref aB1, .ref aB2, .ref aB3, .ref aB4, .ref aB5])), (aB1, .inl (cI, 20, .inl fb)), (aO, .inl (cJ, 1, .inr (.inl g)))] (True) (some (.int 0)) [(aO, .inl (cJ, 1, .inr (.inl (vp_updL g 0 (Int32.toInt64 (pc ((fb (ix w)) &&& (fb (ix x)))))))))] (fun _ : String => False) [(aO, .inl (cJ, 1, .inr (.inl g)))] 6 36 := by
  have iX2 : ∀ w ∈ u_ws RX2 TX2 4, w ∈ wsL_sharedBeasts := fun w h => List.mem_cons_of_mem _ (List.mem_append_left _ (List.mem_append_left _ (List.mem_append_right _ h)))
  have iX0 : ∀ w ∈ u_ws RX0 TX0 7, w ∈ wsL_sharedBeasts := fun w h => List.mem_cons_of_mem _ (List.mem_append_left _ (List.mem_append_right _ h))
  have t242 : ∀ w ∈ (vx_atS "FableIndex" 242 z_IOB ["java/lang/RuntimeException", "java/lang/Exception"]).filter goodWord, w ∈ wsL_sharedBeasts := fun w h => List.mem_cons_of_mem _ (List.mem_append_right _ h)
  refine z_ofWXH (hh := [(0, 10, 13, 13)]) (cc := cL_sharedBeasts) (nL := 5) (ret := (some .int)) (by decide) rfl (Nat.le_of_ble_eq_true rfl) [3] rfl (lv0 := [(0, .ref aX), (1, .int w), (2, .int x), (3, .ref aO)]) rfl ?_
  intro p e s m args below meth c K htab
  refine z_aload_n K 3 dL_sharedBeasts_0 rfl ?_
  refine z_iconst (v := 0) K dL_sharedBeasts_1 (by decide) ?_
  refine z_aload_n K 0 dL_sharedBeasts_2 rfl ?_
  refine z_iload_n K 1 dL_sharedBeasts_3 rfl ?_
  refine z_iload_n K 2 dL_sharedBeasts_4 rfl ?_
  refine z_callVX (ws' := [(aX, .inr (2, [.ref aB, .ref aL, .ref aT, .int se])), (aB, .inr (0, [.int (nI n), .ref aB0, .ref aB1, .ref aB2, .ref aB3, .ref aB4, .ref aB5])), (aB1, .inl (cI, 20, .inl fb)), (aO, .inl (cJ, 1, .inr (.inl g)))]) (st' := [.int (pc ((fb (ix w)) &&& (fb (ix x)))), .int 0, .ref aO]) (rest := [.int 0, .ref aO]) (C := RX2) (T := TX2) (N := 4) K (m_X2_sharedBeasts l G D cI cJ aX w x aB aL aT se n aB0 aB1 aB2 aB3 aB4 aB5 fb (by omega)) gL_sharedBeasts_X2_sharedBeasts rfl 2 2 (by decide +kernel) rfl dL_sharedBeasts_5 [0, 1, 2] 0 [] [] rfl rfl rfl ⟨by decide, by decide⟩ ⟨by decide, by decide⟩ rfl rfl rfl rfl rfl (Nat.le_of_ble_eq_true rfl) rfl rfl rfl rfl rfl rfl rfl (fun E hE => zx_no hcd hE) (fun _ => ?_)
  refine z_i2l K dL_sharedBeasts_8 ?_
  refine z_lastN K 3 1 0 (by omega) (by omega) rfl rfl dL_sharedBeasts_9 (z_memA 0 rfl) (ws' := [(aX, .inr (2, [.ref aB, .ref aL, .ref aT, .int se])), (aB, .inr (0, [.int (nI n), .ref aB0, .ref aB1, .ref aB2, .ref aB3, .ref aB4, .ref aB5])), (aB1, .inl (cI, 20, .inl fb)), (aO, .inl (cJ, 1, .inr (.inl (vp_updL g 0 (Int32.toInt64 (pc ((fb (ix w)) &&& (fb (ix x)))))))))]) rfl ?_
  refine z_goto K 17 dL_sharedBeasts_10 (by decide) ?_
  refine z_iconst (v := 0) K dL_sharedBeasts_17 (by decide) ?_
  exact z_iretX K trivial dL_sharedBeasts_18 (rfl) [3] rfl (by decide) (by decide)

set_option maxRecDepth 100000 in
set_option maxHeartbeats 4000000 in
theorem w1_L_sharedBeasts (l : Launch) (G : Nat → Prop) (D : va_G) (cI cJ : ClassId) (aX : Nat) (w : Int32) (x : Int32) (aO : Nat) (aB : Nat) (aL : Nat) (aT : Nat) (se : Int32) (n : Nat) (aB0 : Nat) (aB1 : Nat) (aB2 : Nat) (aB3 : Nat) (aB4 : Nat) (aB5 : Nat) (fb : Nat → Int32) (g : Nat → Int64) (hn : n ≤ 20) (hcd : ¬ cd1 (fin w n && fin x n) = 0) : z_MX l yL_sharedBeasts wsL_sharedBeasts { frames := 8, cells := 6, slots := 36, locals := 125 } G D [(cI, .int), (cJ, .long)] [.ref aX, .int w, .int x, .ref aO] [(aX, .inr (2, [.ref aB, .ref aL, .ref aT, .int se])), (aB, .inr (0, [.int (nI n), .ref aB0, .ref aB1, .ref aB2, .ref aB3, .ref aB4, .ref aB5])), (aB1, .inl (cI, 20, .inl fb)), (aO, .inl (cJ, 1, .inr (.inl g)))] (True) (some (.int (nI (cd1 (fin w n && fin x n))))) [(aO, .inl (cJ, 1, .inr (.inl g)))] (fun _ : String => False) [(aO, .inl (cJ, 1, .inr (.inl g)))] 6 36 := by
  have iX2 : ∀ w ∈ u_ws RX2 TX2 4, w ∈ wsL_sharedBeasts := fun w h => List.mem_cons_of_mem _ (List.mem_append_left _ (List.mem_append_left _ (List.mem_append_right _ h)))
  have iX0 : ∀ w ∈ u_ws RX0 TX0 7, w ∈ wsL_sharedBeasts := fun w h => List.mem_cons_of_mem _ (List.mem_append_left _ (List.mem_append_right _ h))
  have t242 : ∀ w ∈ (vx_atS "FableIndex" 242 z_IOB ["java/lang/RuntimeException", "java/lang/Exception"]).filter goodWord, w ∈ wsL_sharedBeasts := fun w h => List.mem_cons_of_mem _ (List.mem_append_right _ h)
  refine z_ofWXH (hh := [(0, 10, 13, 13)]) (cc := cL_sharedBeasts) (nL := 5) (ret := (some .int)) (by decide) rfl (Nat.le_of_ble_eq_true rfl) [3] rfl (lv0 := [(0, .ref aX), (1, .int w), (2, .int x), (3, .ref aO)]) rfl ?_
  intro p e s m args below meth c K htab
  refine z_aload_n K 3 dL_sharedBeasts_0 rfl ?_
  refine z_iconst (v := 0) K dL_sharedBeasts_1 (by decide) ?_
  refine z_aload_n K 0 dL_sharedBeasts_2 rfl ?_
  refine z_iload_n K 1 dL_sharedBeasts_3 rfl ?_
  refine z_iload_n K 2 dL_sharedBeasts_4 rfl ?_
  refine z_callVX (ws' := [(aX, .inr (2, [.ref aB, .ref aL, .ref aT, .int se])), (aB, .inr (0, [.int (nI n), .ref aB0, .ref aB1, .ref aB2, .ref aB3, .ref aB4, .ref aB5])), (aB1, .inl (cI, 20, .inl fb)), (aO, .inl (cJ, 1, .inr (.inl g)))]) (st' := [.int (pc ((fb (ix w)) &&& (fb (ix x)))), .int 0, .ref aO]) (rest := [.int 0, .ref aO]) (C := RX2) (T := TX2) (N := 4) K (m_X2_sharedBeasts l G D cI cJ aX w x aB aL aT se n aB0 aB1 aB2 aB3 aB4 aB5 fb (by omega)) gL_sharedBeasts_X2_sharedBeasts rfl 2 2 (by decide +kernel) rfl dL_sharedBeasts_5 [0, 1, 2] 0 [] [] rfl rfl rfl ⟨by decide, by decide⟩ ⟨by decide, by decide⟩ rfl rfl rfl rfl rfl (Nat.le_of_ble_eq_true rfl) rfl rfl rfl rfl rfl rfl rfl (fun E hE => ?_) (fun hk => absurd hk hcd)
  rcases hE with ⟨h9, rfl⟩ | ⟨h9, rfl⟩
  · refine zx_catch (name := "java/lang/IndexOutOfBoundsException") K htab [] ⟨0, 10, 13, 13⟩ [] rfl (fun _ h => absurd h List.not_mem_nil) (by decide) (by decide) (by decide +kernel) (by decide) (fun q => ?_)
    refine z_astore (lv' := [(4, .ref q), (0, .ref aX), (1, .int w), (2, .int x), (3, .ref aO)]) K dL_sharedBeasts_13 (by decide) rfl ?_
    refine z_iconst (v := 1) K dL_sharedBeasts_15 (by decide) ?_
    exact z_iretX K trivial dL_sharedBeasts_16 (by rw [h9]; rfl) [3] rfl (by decide) (by decide)
  · exact absurd h9 cd1_ne2

set_option maxRecDepth 100000 in
set_option maxHeartbeats 4000000 in
theorem w0_L_isOpen (l : Launch) (G : Nat → Prop) (D : va_G) (cI cJ : ClassId) (aX : Nat) (w : Int32) (x : Int32) (aO : Nat) (aB : Nat) (aL : Nat) (aT : Nat) (se : Int32) (aL0 : Nat) (aL1 : Nat) (aL2 : Nat) (aL3 : Nat) (aL4 : Nat) (aL5 : Nat) (hu : Int32) (lw : Nat → Int32) (g : Nat → Int64) (hcd : cd1 (fin w 6 && fin x 6) = 0) : z_MX l yL_isOpen wsL_isOpen { frames := 8, cells := 6, slots := 36, locals := 124 } G D [(cI, .int), (cJ, .long)] [.ref aX, .int w, .int x, .ref aO] [(aX, .inr (2, [.ref aB, .ref aL, .ref aT, .int se])), (aL, .inr (1, [.ref aL0, .ref aL1, .ref aL2, .ref aL3, .ref aL4, .ref aL5, .int hu])), (aL0, .inl (cI, 6, .inl lw)), (aO, .inl (cJ, 1, .inr (.inl g)))] (True) (some (.int 0)) [(aO, .inl (cJ, 1, .inr (.inl (vp_updL g 0 (Int32.toInt64 (z_b (hs (lw (ix w)) x)))))))] (fun _ : String => False) [(aO, .inl (cJ, 1, .inr (.inl g)))] 6 36 := by
  have iX2 : ∀ w ∈ u_ws RX2 TX2 4, w ∈ wsL_isOpen := fun w h => List.mem_cons_of_mem _ (List.mem_append_left _ (List.mem_append_left _ (List.mem_append_right _ h)))
  have iX1 : ∀ w ∈ u_ws RX1 TX1 7, w ∈ wsL_isOpen := fun w h => List.mem_cons_of_mem _ (List.mem_append_left _ (List.mem_append_right _ h))
  have t242 : ∀ w ∈ (vx_atS "FableIndex" 242 z_IOB ["java/lang/RuntimeException", "java/lang/Exception"]).filter goodWord, w ∈ wsL_isOpen := fun w h => List.mem_cons_of_mem _ (List.mem_append_right _ h)
  refine z_ofWXH (hh := [(0, 17, 20, 13)]) (cc := cL_isOpen) (nL := 5) (ret := (some .int)) (by decide) rfl (Nat.le_of_ble_eq_true rfl) [3] rfl (lv0 := [(0, .ref aX), (1, .int w), (2, .int x), (3, .ref aO)]) rfl ?_
  intro p e s m args below meth c K htab
  refine z_aload_n K 3 dL_isOpen_0 rfl ?_
  refine z_iconst (v := 0) K dL_isOpen_1 (by decide) ?_
  refine z_aload_n K 0 dL_isOpen_2 rfl ?_
  refine z_iload_n K 1 dL_isOpen_3 rfl ?_
  refine z_iload_n K 2 dL_isOpen_4 rfl ?_
  refine z_callVX (ws' := [(aX, .inr (2, [.ref aB, .ref aL, .ref aT, .int se])), (aL, .inr (1, [.ref aL0, .ref aL1, .ref aL2, .ref aL3, .ref aL4, .ref aL5, .int hu])), (aL0, .inl (cI, 6, .inl lw)), (aO, .inl (cJ, 1, .inr (.inl g)))]) (st' := [.int (z_b (hs (lw (ix w)) x)), .int 0, .ref aO]) (rest := [.int 0, .ref aO]) (C := RX2) (T := TX2) (N := 4) K (m_X2_isOpen l G D cI cJ aX w x aB aL aT se aL0 aL1 aL2 aL3 aL4 aL5 hu lw ) gL_isOpen_X2_isOpen rfl 2 2 (by decide +kernel) rfl dL_isOpen_5 [0, 1, 2] 0 [] [] rfl rfl rfl ⟨by decide, by decide⟩ ⟨by decide, by decide⟩ rfl rfl rfl rfl rfl (Nat.le_of_ble_eq_true rfl) rfl rfl rfl rfl rfl rfl rfl (fun E hE => zx_no hcd hE) (fun _ => ?_)
  refine z_if_eqB K 15 dL_isOpen_8 (by decide) (fun c8 => ?_) (fun c8 => ?_)
  · refine z_lconst (v := 0) K dL_isOpen_15 (by decide) ?_
    refine z_lastN K 3 1 0 (by omega) (by omega) rfl rfl dL_isOpen_16 (z_memA 0 rfl) (ws' := [(aX, .inr (2, [.ref aB, .ref aL, .ref aT, .int se])), (aL, .inr (1, [.ref aL0, .ref aL1, .ref aL2, .ref aL3, .ref aL4, .ref aL5, .int hu])), (aL0, .inl (cI, 6, .inl lw)), (aO, .inl (cJ, 1, .inr (.inl (vp_updL g 0 0))))]) rfl ?_
    refine z_goto K 24 dL_isOpen_17 (by decide) ?_
    refine z_iconst (v := 0) K dL_isOpen_24 (by decide) ?_
    exact z_iretX K trivial dL_isOpen_25 (rfl) [3] (by rw [show (vp_updL g 0 (Int32.toInt64 (z_b (hs (lw (ix w)) x)))) = (vp_updL g 0 0) from (by rw [c8]; rfl)]; rfl) (by decide) (by decide)
  · refine z_lconst (v := 1) K dL_isOpen_11 (by decide) ?_
    refine z_goto K 16 dL_isOpen_12 (by decide) ?_
    refine z_lastN K 3 1 0 (by omega) (by omega) rfl rfl dL_isOpen_16 (z_memA 0 rfl) (ws' := [(aX, .inr (2, [.ref aB, .ref aL, .ref aT, .int se])), (aL, .inr (1, [.ref aL0, .ref aL1, .ref aL2, .ref aL3, .ref aL4, .ref aL5, .int hu])), (aL0, .inl (cI, 6, .inl lw)), (aO, .inl (cJ, 1, .inr (.inl (vp_updL g 0 1))))]) rfl ?_
    refine z_goto K 24 dL_isOpen_17 (by decide) ?_
    refine z_iconst (v := 0) K dL_isOpen_24 (by decide) ?_
    exact z_iretX K trivial dL_isOpen_25 (rfl) [3] (by rw [show (vp_updL g 0 (Int32.toInt64 (z_b (hs (lw (ix w)) x)))) = (vp_updL g 0 1) from (by rw [c8]; rfl)]; rfl) (by decide) (by decide)

set_option maxRecDepth 100000 in
set_option maxHeartbeats 4000000 in
theorem w1_L_isOpen (l : Launch) (G : Nat → Prop) (D : va_G) (cI cJ : ClassId) (aX : Nat) (w : Int32) (x : Int32) (aO : Nat) (aB : Nat) (aL : Nat) (aT : Nat) (se : Int32) (aL0 : Nat) (aL1 : Nat) (aL2 : Nat) (aL3 : Nat) (aL4 : Nat) (aL5 : Nat) (hu : Int32) (lw : Nat → Int32) (g : Nat → Int64) (hcd : ¬ cd1 (fin w 6 && fin x 6) = 0) : z_MX l yL_isOpen wsL_isOpen { frames := 8, cells := 6, slots := 36, locals := 124 } G D [(cI, .int), (cJ, .long)] [.ref aX, .int w, .int x, .ref aO] [(aX, .inr (2, [.ref aB, .ref aL, .ref aT, .int se])), (aL, .inr (1, [.ref aL0, .ref aL1, .ref aL2, .ref aL3, .ref aL4, .ref aL5, .int hu])), (aL0, .inl (cI, 6, .inl lw)), (aO, .inl (cJ, 1, .inr (.inl g)))] (True) (some (.int (nI (cd1 (fin w 6 && fin x 6))))) [(aO, .inl (cJ, 1, .inr (.inl g)))] (fun _ : String => False) [(aO, .inl (cJ, 1, .inr (.inl g)))] 6 36 := by
  have iX2 : ∀ w ∈ u_ws RX2 TX2 4, w ∈ wsL_isOpen := fun w h => List.mem_cons_of_mem _ (List.mem_append_left _ (List.mem_append_left _ (List.mem_append_right _ h)))
  have iX1 : ∀ w ∈ u_ws RX1 TX1 7, w ∈ wsL_isOpen := fun w h => List.mem_cons_of_mem _ (List.mem_append_left _ (List.mem_append_right _ h))
  have t242 : ∀ w ∈ (vx_atS "FableIndex" 242 z_IOB ["java/lang/RuntimeException", "java/lang/Exception"]).filter goodWord, w ∈ wsL_isOpen := fun w h => List.mem_cons_of_mem _ (List.mem_append_right _ h)
  refine z_ofWXH (hh := [(0, 17, 20, 13)]) (cc := cL_isOpen) (nL := 5) (ret := (some .int)) (by decide) rfl (Nat.le_of_ble_eq_true rfl) [3] rfl (lv0 := [(0, .ref aX), (1, .int w), (2, .int x), (3, .ref aO)]) rfl ?_
  intro p e s m args below meth c K htab
  refine z_aload_n K 3 dL_isOpen_0 rfl ?_
  refine z_iconst (v := 0) K dL_isOpen_1 (by decide) ?_
  refine z_aload_n K 0 dL_isOpen_2 rfl ?_
  refine z_iload_n K 1 dL_isOpen_3 rfl ?_
  refine z_iload_n K 2 dL_isOpen_4 rfl ?_
  refine z_callVX (ws' := [(aX, .inr (2, [.ref aB, .ref aL, .ref aT, .int se])), (aL, .inr (1, [.ref aL0, .ref aL1, .ref aL2, .ref aL3, .ref aL4, .ref aL5, .int hu])), (aL0, .inl (cI, 6, .inl lw)), (aO, .inl (cJ, 1, .inr (.inl g)))]) (st' := [.int (z_b (hs (lw (ix w)) x)), .int 0, .ref aO]) (rest := [.int 0, .ref aO]) (C := RX2) (T := TX2) (N := 4) K (m_X2_isOpen l G D cI cJ aX w x aB aL aT se aL0 aL1 aL2 aL3 aL4 aL5 hu lw ) gL_isOpen_X2_isOpen rfl 2 2 (by decide +kernel) rfl dL_isOpen_5 [0, 1, 2] 0 [] [] rfl rfl rfl ⟨by decide, by decide⟩ ⟨by decide, by decide⟩ rfl rfl rfl rfl rfl (Nat.le_of_ble_eq_true rfl) rfl rfl rfl rfl rfl rfl rfl (fun E hE => ?_) (fun hk => absurd hk hcd)
  rcases hE with ⟨h9, rfl⟩ | ⟨h9, rfl⟩
  · refine zx_catch (name := "java/lang/IndexOutOfBoundsException") K htab [] ⟨0, 17, 20, 13⟩ [] rfl (fun _ h => absurd h List.not_mem_nil) (by decide) (by decide) (by decide +kernel) (by decide) (fun q => ?_)
    refine z_astore (lv' := [(4, .ref q), (0, .ref aX), (1, .int w), (2, .int x), (3, .ref aO)]) K dL_isOpen_20 (by decide) rfl ?_
    refine z_iconst (v := 1) K dL_isOpen_22 (by decide) ?_
    exact z_iretX K trivial dL_isOpen_23 (by rw [h9]; rfl) [3] rfl (by decide) (by decide)
  · exact absurd h9 cd1_ne2
