set_option maxRecDepth 100000 in
set_option maxHeartbeats 4000000 in
theorem w0_L_addFable (l : Launch) (G : Nat → Prop) (D : va_G) (cI cJ : ClassId) (aX : Nat) (w : Int32) (x : Int32) (y : Int32) (aO : Nat) (aB : Nat) (aL : Nat) (aT : Nat) (se : Int32) (n : Nat) (aB0 : Nat) (aB1 : Nat) (aB2 : Nat) (aB3 : Nat) (aB4 : Nat) (aB5 : Nat) (fm : Nat → Int32) (fb : Nat → Int32) (fh : Nat → Int32) (fp : Nat → Int32) (fv : Nat → Int32) (fa : Nat → Int32) (g : Nat → Int64) (hn : n ≤ 20) (hcd : cdAF w x y n = 0) : z_MX l yL_addFable wsL_addFable { frames := 8, cells := 6, slots := 36, locals := 125 } G D [(cI, .int), (cJ, .long)] [.ref aX, .int w, .int x, .int y, .ref aO] [(aX, .inr (2, [.ref aB, .ref aL, .ref aT, .int se])), (aB, .inr (0, [.int (nI n), .ref aB0, .ref aB1, .ref aB2, .ref aB3, .ref aB4, .ref aB5])), (aB0, .inl (cI, 20, .inl fm)), (aB1, .inl (cI, 20, .inl fb)), (aB2, .inl (cI, 20, .inl fh)), (aB3, .inl (cI, 20, .inl fp)), (aB4, .inl (cI, 20, .inl fv)), (aB5, .inl (cI, 20, .inl fa)), (aO, .inl (cJ, 1, .inr (.inl g)))] (True) (some (.int 0)) [(aB, .inr (0, [.int (nI (n + 1)), .ref aB0, .ref aB1, .ref aB2, .ref aB3, .ref aB4, .ref aB5])), (aB0, .inl (cI, 20, .inl (upd fm n w))), (aB1, .inl (cI, 20, .inl (upd fb n ((1 : Int32) <<< (x &&& 31))))), (aB2, .inl (cI, 20, .inl (upd fh n y))), (aB3, .inl (cI, 20, .inl (upd fp n (-1)))), (aB4, .inl (cI, 20, .inl (wrV fv n (-1)))), (aB5, .inl (cI, 20, .inl (wrA fa n (-1)))), (aO, .inl (cJ, 1, .inr (.inl (vp_updL g 0 (Int32.toInt64 (nI n))))))] (fun _ : String => False) [(aB, .inr (0, [.int (nI n), .ref aB0, .ref aB1, .ref aB2, .ref aB3, .ref aB4, .ref aB5])), (aB0, .inl (cI, 20, .inl fm)), (aB1, .inl (cI, 20, .inl fb)), (aB2, .inl (cI, 20, .inl fh)), (aB3, .inl (cI, 20, .inl fp)), (aB4, .inl (cI, 20, .inl fv)), (aB5, .inl (cI, 20, .inl fa)), (aO, .inl (cJ, 1, .inr (.inl g)))] 6 36 := by
  have iX2 : ∀ w ∈ u_ws RX2 TX2 4, w ∈ wsL_addFable := fun w h => List.mem_cons_of_mem _ (List.mem_append_left _ (List.mem_append_left _ (List.mem_append_left _ (List.mem_append_right _ h))))
  have iX0 : ∀ w ∈ u_ws RX0 TX0 7, w ∈ wsL_addFable := fun w h => List.mem_cons_of_mem _ (List.mem_append_left _ (List.mem_append_left _ (List.mem_append_right _ h)))
  have t242 : ∀ w ∈ (vx_atS "FableIndex" 242 z_IOB ["java/lang/RuntimeException", "java/lang/Exception"]).filter goodWord, w ∈ wsL_addFable := fun w h => List.mem_cons_of_mem _ (List.mem_append_left _ (List.mem_append_right _ h))
  have t62 : ∀ w ∈ (vx_atS "FableIndex" 62 z_ISE ["java/lang/RuntimeException", "java/lang/Exception"]).filter goodWord, w ∈ wsL_addFable := fun w h => List.mem_cons_of_mem _ (List.mem_append_right _ h)
  refine z_ofWXH (hh := [(0, 12, 15, 13), (0, 12, 19, 15)]) (cc := cL_addFable) (nL := 6) (ret := (some .int)) (by decide) rfl (Nat.le_of_ble_eq_true rfl) [1, 2, 3, 4, 5, 6, 7, 8] rfl (lv0 := [(0, .ref aX), (1, .int w), (2, .int x), (3, .int y), (4, .ref aO)]) rfl ?_
  intro p e s m args below meth c K htab
  refine z_aload K 4 dL_addFable_0 rfl ?_
  refine z_iconst (v := 0) K dL_addFable_2 (by decide) ?_
  refine z_aload_n K 0 dL_addFable_3 rfl ?_
  refine z_iload_n K 1 dL_addFable_4 rfl ?_
  refine z_iload_n K 2 dL_addFable_5 rfl ?_
  refine z_iload_n K 3 dL_addFable_6 rfl ?_
  refine z_callVX (ws' := [(aX, .inr (2, [.ref aB, .ref aL, .ref aT, .int se])), (aB, .inr (0, [.int (nI (n + 1)), .ref aB0, .ref aB1, .ref aB2, .ref aB3, .ref aB4, .ref aB5])), (aB0, .inl (cI, 20, .inl (upd fm n w))), (aB1, .inl (cI, 20, .inl (upd fb n ((1 : Int32) <<< (x &&& 31))))), (aB2, .inl (cI, 20, .inl (upd fh n y))), (aB3, .inl (cI, 20, .inl (upd fp n (-1)))), (aB4, .inl (cI, 20, .inl (wrV fv n (-1)))), (aB5, .inl (cI, 20, .inl (wrA fa n (-1)))), (aO, .inl (cJ, 1, .inr (.inl g)))]) (st' := [.int (nI n), .int 0, .ref aO]) (rest := [.int 0, .ref aO]) (C := RX2) (T := TX2) (N := 4) K (m_X2_addFable l G D cI cJ aX w x y aB aL aT se n aB0 aB1 aB2 aB3 aB4 aB5 fm fb fh fp fv fa (by omega)) gL_addFable_X2_addFable rfl 3 2 (by decide +kernel) rfl dL_addFable_7 [0, 1, 2, 3, 4, 5, 6, 7] 0 [1, 2, 3, 4, 5, 6, 7] [0, 1, 2, 3, 4, 5, 6] rfl rfl rfl ⟨by decide, by decide⟩ ⟨by decide, by decide⟩ rfl rfl rfl rfl rfl (Nat.le_of_ble_eq_true rfl) rfl rfl rfl rfl rfl rfl rfl (fun E hE => zx_no hcd hE) (fun _ => ?_)
  refine z_i2l K dL_addFable_10 ?_
  refine z_lastN K 8 1 0 (by omega) (by omega) rfl rfl dL_addFable_11 (z_memA 7 rfl) (ws' := [(aX, .inr (2, [.ref aB, .ref aL, .ref aT, .int se])), (aB, .inr (0, [.int (nI (n + 1)), .ref aB0, .ref aB1, .ref aB2, .ref aB3, .ref aB4, .ref aB5])), (aB0, .inl (cI, 20, .inl (upd fm n w))), (aB1, .inl (cI, 20, .inl (upd fb n ((1 : Int32) <<< (x &&& 31))))), (aB2, .inl (cI, 20, .inl (upd fh n y))), (aB3, .inl (cI, 20, .inl (upd fp n (-1)))), (aB4, .inl (cI, 20, .inl (wrV fv n (-1)))), (aB5, .inl (cI, 20, .inl (wrA fa n (-1)))), (aO, .inl (cJ, 1, .inr (.inl (vp_updL g 0 (Int32.toInt64 (nI n))))))]) rfl ?_
  refine z_goto K 23 dL_addFable_12 (by decide) ?_
  refine z_iconst (v := 0) K dL_addFable_23 (by decide) ?_
  exact z_iretX K trivial dL_addFable_24 (rfl) [1, 2, 3, 4, 5, 6, 7, 8] rfl (by decide) (by decide)

set_option maxRecDepth 100000 in
set_option maxHeartbeats 4000000 in
theorem w1_L_addFable (l : Launch) (G : Nat → Prop) (D : va_G) (cI cJ : ClassId) (aX : Nat) (w : Int32) (x : Int32) (y : Int32) (aO : Nat) (aB : Nat) (aL : Nat) (aT : Nat) (se : Int32) (n : Nat) (aB0 : Nat) (aB1 : Nat) (aB2 : Nat) (aB3 : Nat) (aB4 : Nat) (aB5 : Nat) (fm : Nat → Int32) (fb : Nat → Int32) (fh : Nat → Int32) (fp : Nat → Int32) (fv : Nat → Int32) (fa : Nat → Int32) (g : Nat → Int64) (hn : n ≤ 20) (hcd : ¬ cdAF w x y n = 0) : z_MX l yL_addFable wsL_addFable { frames := 8, cells := 6, slots := 36, locals := 125 } G D [(cI, .int), (cJ, .long)] [.ref aX, .int w, .int x, .int y, .ref aO] [(aX, .inr (2, [.ref aB, .ref aL, .ref aT, .int se])), (aB, .inr (0, [.int (nI n), .ref aB0, .ref aB1, .ref aB2, .ref aB3, .ref aB4, .ref aB5])), (aB0, .inl (cI, 20, .inl fm)), (aB1, .inl (cI, 20, .inl fb)), (aB2, .inl (cI, 20, .inl fh)), (aB3, .inl (cI, 20, .inl fp)), (aB4, .inl (cI, 20, .inl fv)), (aB5, .inl (cI, 20, .inl fa)), (aO, .inl (cJ, 1, .inr (.inl g)))] (True) (some (.int (nI (cdAF w x y n)))) [(aB, .inr (0, [.int (nI n), .ref aB0, .ref aB1, .ref aB2, .ref aB3, .ref aB4, .ref aB5])), (aB0, .inl (cI, 20, .inl fm)), (aB1, .inl (cI, 20, .inl fb)), (aB2, .inl (cI, 20, .inl fh)), (aB3, .inl (cI, 20, .inl fp)), (aB4, .inl (cI, 20, .inl fv)), (aB5, .inl (cI, 20, .inl fa)), (aO, .inl (cJ, 1, .inr (.inl g)))] (fun _ : String => False) [(aB, .inr (0, [.int (nI n), .ref aB0, .ref aB1, .ref aB2, .ref aB3, .ref aB4, .ref aB5])), (aB0, .inl (cI, 20, .inl fm)), (aB1, .inl (cI, 20, .inl fb)), (aB2, .inl (cI, 20, .inl fh)), (aB3, .inl (cI, 20, .inl fp)), (aB4, .inl (cI, 20, .inl fv)), (aB5, .inl (cI, 20, .inl fa)), (aO, .inl (cJ, 1, .inr (.inl g)))] 6 36 := by
  have iX2 : ∀ w ∈ u_ws RX2 TX2 4, w ∈ wsL_addFable := fun w h => List.mem_cons_of_mem _ (List.mem_append_left _ (List.mem_append_left _ (List.mem_append_left _ (List.mem_append_right _ h))))
  have iX0 : ∀ w ∈ u_ws RX0 TX0 7, w ∈ wsL_addFable := fun w h => List.mem_cons_of_mem _ (List.mem_append_left _ (List.mem_append_left _ (List.mem_append_right _ h)))
  have t242 : ∀ w ∈ (vx_atS "FableIndex" 242 z_IOB ["java/lang/RuntimeException", "java/lang/Exception"]).filter goodWord, w ∈ wsL_addFable := fun w h => List.mem_cons_of_mem _ (List.mem_append_left _ (List.mem_append_right _ h))
  have t62 : ∀ w ∈ (vx_atS "FableIndex" 62 z_ISE ["java/lang/RuntimeException", "java/lang/Exception"]).filter goodWord, w ∈ wsL_addFable := fun w h => List.mem_cons_of_mem _ (List.mem_append_right _ h)
  refine z_ofWXH (hh := [(0, 12, 15, 13), (0, 12, 19, 15)]) (cc := cL_addFable) (nL := 6) (ret := (some .int)) (by decide) rfl (Nat.le_of_ble_eq_true rfl) [1, 2, 3, 4, 5, 6, 7, 8] rfl (lv0 := [(0, .ref aX), (1, .int w), (2, .int x), (3, .int y), (4, .ref aO)]) rfl ?_
  intro p e s m args below meth c K htab
  refine z_aload K 4 dL_addFable_0 rfl ?_
  refine z_iconst (v := 0) K dL_addFable_2 (by decide) ?_
  refine z_aload_n K 0 dL_addFable_3 rfl ?_
  refine z_iload_n K 1 dL_addFable_4 rfl ?_
  refine z_iload_n K 2 dL_addFable_5 rfl ?_
  refine z_iload_n K 3 dL_addFable_6 rfl ?_
  refine z_callVX (ws' := [(aX, .inr (2, [.ref aB, .ref aL, .ref aT, .int se])), (aB, .inr (0, [.int (nI (n + 1)), .ref aB0, .ref aB1, .ref aB2, .ref aB3, .ref aB4, .ref aB5])), (aB0, .inl (cI, 20, .inl (upd fm n w))), (aB1, .inl (cI, 20, .inl (upd fb n ((1 : Int32) <<< (x &&& 31))))), (aB2, .inl (cI, 20, .inl (upd fh n y))), (aB3, .inl (cI, 20, .inl (upd fp n (-1)))), (aB4, .inl (cI, 20, .inl (wrV fv n (-1)))), (aB5, .inl (cI, 20, .inl (wrA fa n (-1)))), (aO, .inl (cJ, 1, .inr (.inl g)))]) (st' := [.int (nI n), .int 0, .ref aO]) (rest := [.int 0, .ref aO]) (C := RX2) (T := TX2) (N := 4) K (m_X2_addFable l G D cI cJ aX w x y aB aL aT se n aB0 aB1 aB2 aB3 aB4 aB5 fm fb fh fp fv fa (by omega)) gL_addFable_X2_addFable rfl 3 2 (by decide +kernel) rfl dL_addFable_7 [0, 1, 2, 3, 4, 5, 6, 7] 0 [1, 2, 3, 4, 5, 6, 7] [0, 1, 2, 3, 4, 5, 6] rfl rfl rfl ⟨by decide, by decide⟩ ⟨by decide, by decide⟩ rfl rfl rfl rfl rfl (Nat.le_of_ble_eq_true rfl) rfl rfl rfl rfl rfl rfl rfl (fun E hE => ?_) (fun hk => absurd hk hcd)
  rcases hE with ⟨h9, rfl⟩ | ⟨h9, rfl⟩
  · refine zx_catch (name := "java/lang/IndexOutOfBoundsException") K htab [] ⟨0, 12, 15, 13⟩ [⟨0, 12, 19, 15⟩] rfl (fun _ h => absurd h List.not_mem_nil) (by decide) (by decide) (by decide +kernel) (by decide) (fun q => ?_)
    refine z_astore (lv' := [(5, .ref q), (0, .ref aX), (1, .int w), (2, .int x), (3, .int y), (4, .ref aO)]) K dL_addFable_15 (by decide) rfl ?_
    refine z_iconst (v := 1) K dL_addFable_17 (by decide) ?_
    exact z_iretX K trivial dL_addFable_18 (by rw [h9]; rfl) [1, 2, 3, 4, 5, 6, 7, 8] rfl (by decide) (by decide)
  · refine zx_catch (name := "java/lang/IllegalStateException") K htab [⟨0, 12, 15, 13⟩] ⟨0, 12, 19, 15⟩ [] rfl (fun z hz => by rw [List.mem_singleton.mp hz]; exact ⟨by decide, "java/lang/IndexOutOfBoundsException", by decide +kernel, by decide⟩) (by decide) (by decide) (by decide +kernel) (by decide) (fun q => ?_)
    refine z_astore (lv' := [(5, .ref q), (0, .ref aX), (1, .int w), (2, .int x), (3, .int y), (4, .ref aO)]) K dL_addFable_19 (by decide) rfl ?_
    refine z_iconst (v := 2) K dL_addFable_21 (by decide) ?_
    exact z_iretX K trivial dL_addFable_22 (by rw [h9]; rfl) [1, 2, 3, 4, 5, 6, 7, 8] rfl (by decide) (by decide)

set_option maxRecDepth 100000 in
set_option maxHeartbeats 4000000 in
theorem w0_L_addBeast (l : Launch) (G : Nat → Prop) (D : va_G) (cI cJ : ClassId) (aX : Nat) (w : Int32) (x : Int32) (aO : Nat) (aB : Nat) (aL : Nat) (aT : Nat) (se : Int32) (n : Nat) (aB0 : Nat) (aB1 : Nat) (aB2 : Nat) (aB3 : Nat) (aB4 : Nat) (aB5 : Nat) (fb : Nat → Int32) (fv : Nat → Int32) (g : Nat → Int64) (hn : n ≤ 20) (hcd : cdAB w x n fb fv = 0) : z_MX l yL_addBeast wsL_addBeast { frames := 8, cells := 6, slots := 36, locals := 125 } G D [(cI, .int), (cJ, .long)] [.ref aX, .int w, .int x, .ref aO] [(aX, .inr (2, [.ref aB, .ref aL, .ref aT, .int se])), (aB, .inr (0, [.int (nI n), .ref aB0, .ref aB1, .ref aB2, .ref aB3, .ref aB4, .ref aB5])), (aB1, .inl (cI, 20, .inl fb)), (aB4, .inl (cI, 20, .inl fv)), (aO, .inl (cJ, 1, .inr (.inl g)))] (True) (some (.int 0)) [(aB1, .inl (cI, 20, .inl (abF fb (ix w) x))), (aO, .inl (cJ, 1, .inr (.inl (vp_updL g 0 (Int32.toInt64 (pc (abF fb (ix w) x (ix w))))))))] (fun _ : String => False) [(aB1, .inl (cI, 20, .inl fb)), (aO, .inl (cJ, 1, .inr (.inl g)))] 6 36 := by
  have iX2 : ∀ w ∈ u_ws RX2 TX2 4, w ∈ wsL_addBeast := fun w h => List.mem_cons_of_mem _ (List.mem_append_left _ (List.mem_append_left _ (List.mem_append_left _ (List.mem_append_right _ h))))
  have iX0 : ∀ w ∈ u_ws RX0 TX0 7, w ∈ wsL_addBeast := fun w h => List.mem_cons_of_mem _ (List.mem_append_left _ (List.mem_append_left _ (List.mem_append_right _ h)))
  have t62 : ∀ w ∈ (vx_atS "FableIndex" 62 z_ISE ["java/lang/RuntimeException", "java/lang/Exception"]).filter goodWord, w ∈ wsL_addBeast := fun w h => List.mem_cons_of_mem _ (List.mem_append_left _ (List.mem_append_right _ h))
  have t242 : ∀ w ∈ (vx_atS "FableIndex" 242 z_IOB ["java/lang/RuntimeException", "java/lang/Exception"]).filter goodWord, w ∈ wsL_addBeast := fun w h => List.mem_cons_of_mem _ (List.mem_append_right _ h)
  refine z_ofWXH (hh := [(0, 10, 13, 13), (0, 10, 17, 15)]) (cc := cL_addBeast) (nL := 5) (ret := (some .int)) (by decide) rfl (Nat.le_of_ble_eq_true rfl) [2, 4] rfl (lv0 := [(0, .ref aX), (1, .int w), (2, .int x), (3, .ref aO)]) rfl ?_
  intro p e s m args below meth c K htab
  refine z_aload_n K 3 dL_addBeast_0 rfl ?_
  refine z_iconst (v := 0) K dL_addBeast_1 (by decide) ?_
  refine z_aload_n K 0 dL_addBeast_2 rfl ?_
  refine z_iload_n K 1 dL_addBeast_3 rfl ?_
  refine z_iload_n K 2 dL_addBeast_4 rfl ?_
  refine z_callVX (ws' := [(aX, .inr (2, [.ref aB, .ref aL, .ref aT, .int se])), (aB, .inr (0, [.int (nI n), .ref aB0, .ref aB1, .ref aB2, .ref aB3, .ref aB4, .ref aB5])), (aB1, .inl (cI, 20, .inl (abF fb (ix w) x))), (aB4, .inl (cI, 20, .inl fv)), (aO, .inl (cJ, 1, .inr (.inl g)))]) (st' := [.int (pc (abF fb (ix w) x (ix w))), .int 0, .ref aO]) (rest := [.int 0, .ref aO]) (C := RX2) (T := TX2) (N := 4) K (m_X2_addBeast l G D cI cJ aX w x aB aL aT se n aB0 aB1 aB2 aB3 aB4 aB5 fb fv (by omega)) gL_addBeast_X2_addBeast rfl 2 2 (by decide +kernel) rfl dL_addBeast_5 [0, 1, 2, 3] 0 [2] [0] rfl rfl rfl ⟨by decide, by decide⟩ ⟨by decide, by decide⟩ rfl rfl rfl rfl rfl (Nat.le_of_ble_eq_true rfl) rfl rfl rfl rfl rfl rfl rfl (fun E hE => zx_no hcd hE) (fun _ => ?_)
  refine z_i2l K dL_addBeast_8 ?_
  refine z_lastN K 4 1 0 (by omega) (by omega) rfl rfl dL_addBeast_9 (z_memA 1 rfl) (ws' := [(aX, .inr (2, [.ref aB, .ref aL, .ref aT, .int se])), (aB, .inr (0, [.int (nI n), .ref aB0, .ref aB1, .ref aB2, .ref aB3, .ref aB4, .ref aB5])), (aB1, .inl (cI, 20, .inl (abF fb (ix w) x))), (aB4, .inl (cI, 20, .inl fv)), (aO, .inl (cJ, 1, .inr (.inl (vp_updL g 0 (Int32.toInt64 (pc (abF fb (ix w) x (ix w))))))))]) rfl ?_
  refine z_goto K 21 dL_addBeast_10 (by decide) ?_
  refine z_iconst (v := 0) K dL_addBeast_21 (by decide) ?_
  exact z_iretX K trivial dL_addBeast_22 (rfl) [2, 4] rfl (by decide) (by decide)

set_option maxRecDepth 100000 in
set_option maxHeartbeats 4000000 in
theorem w1_L_addBeast (l : Launch) (G : Nat → Prop) (D : va_G) (cI cJ : ClassId) (aX : Nat) (w : Int32) (x : Int32) (aO : Nat) (aB : Nat) (aL : Nat) (aT : Nat) (se : Int32) (n : Nat) (aB0 : Nat) (aB1 : Nat) (aB2 : Nat) (aB3 : Nat) (aB4 : Nat) (aB5 : Nat) (fb : Nat → Int32) (fv : Nat → Int32) (g : Nat → Int64) (hn : n ≤ 20) (hcd : ¬ cdAB w x n fb fv = 0) : z_MX l yL_addBeast wsL_addBeast { frames := 8, cells := 6, slots := 36, locals := 125 } G D [(cI, .int), (cJ, .long)] [.ref aX, .int w, .int x, .ref aO] [(aX, .inr (2, [.ref aB, .ref aL, .ref aT, .int se])), (aB, .inr (0, [.int (nI n), .ref aB0, .ref aB1, .ref aB2, .ref aB3, .ref aB4, .ref aB5])), (aB1, .inl (cI, 20, .inl fb)), (aB4, .inl (cI, 20, .inl fv)), (aO, .inl (cJ, 1, .inr (.inl g)))] (True) (some (.int (nI (cdAB w x n fb fv)))) [(aB1, .inl (cI, 20, .inl fb)), (aO, .inl (cJ, 1, .inr (.inl g)))] (fun _ : String => False) [(aB1, .inl (cI, 20, .inl fb)), (aO, .inl (cJ, 1, .inr (.inl g)))] 6 36 := by
  have iX2 : ∀ w ∈ u_ws RX2 TX2 4, w ∈ wsL_addBeast := fun w h => List.mem_cons_of_mem _ (List.mem_append_left _ (List.mem_append_left _ (List.mem_append_left _ (List.mem_append_right _ h))))
  have iX0 : ∀ w ∈ u_ws RX0 TX0 7, w ∈ wsL_addBeast := fun w h => List.mem_cons_of_mem _ (List.mem_append_left _ (List.mem_append_left _ (List.mem_append_right _ h)))
  have t62 : ∀ w ∈ (vx_atS "FableIndex" 62 z_ISE ["java/lang/RuntimeException", "java/lang/Exception"]).filter goodWord, w ∈ wsL_addBeast := fun w h => List.mem_cons_of_mem _ (List.mem_append_left _ (List.mem_append_right _ h))
  have t242 : ∀ w ∈ (vx_atS "FableIndex" 242 z_IOB ["java/lang/RuntimeException", "java/lang/Exception"]).filter goodWord, w ∈ wsL_addBeast := fun w h => List.mem_cons_of_mem _ (List.mem_append_right _ h)
  refine z_ofWXH (hh := [(0, 10, 13, 13), (0, 10, 17, 15)]) (cc := cL_addBeast) (nL := 5) (ret := (some .int)) (by decide) rfl (Nat.le_of_ble_eq_true rfl) [2, 4] rfl (lv0 := [(0, .ref aX), (1, .int w), (2, .int x), (3, .ref aO)]) rfl ?_
  intro p e s m args below meth c K htab
  refine z_aload_n K 3 dL_addBeast_0 rfl ?_
  refine z_iconst (v := 0) K dL_addBeast_1 (by decide) ?_
  refine z_aload_n K 0 dL_addBeast_2 rfl ?_
  refine z_iload_n K 1 dL_addBeast_3 rfl ?_
  refine z_iload_n K 2 dL_addBeast_4 rfl ?_
  refine z_callVX (ws' := [(aX, .inr (2, [.ref aB, .ref aL, .ref aT, .int se])), (aB, .inr (0, [.int (nI n), .ref aB0, .ref aB1, .ref aB2, .ref aB3, .ref aB4, .ref aB5])), (aB1, .inl (cI, 20, .inl (abF fb (ix w) x))), (aB4, .inl (cI, 20, .inl fv)), (aO, .inl (cJ, 1, .inr (.inl g)))]) (st' := [.int (pc (abF fb (ix w) x (ix w))), .int 0, .ref aO]) (rest := [.int 0, .ref aO]) (C := RX2) (T := TX2) (N := 4) K (m_X2_addBeast l G D cI cJ aX w x aB aL aT se n aB0 aB1 aB2 aB3 aB4 aB5 fb fv (by omega)) gL_addBeast_X2_addBeast rfl 2 2 (by decide +kernel) rfl dL_addBeast_5 [0, 1, 2, 3] 0 [2] [0] rfl rfl rfl ⟨by decide, by decide⟩ ⟨by decide, by decide⟩ rfl rfl rfl rfl rfl (Nat.le_of_ble_eq_true rfl) rfl rfl rfl rfl rfl rfl rfl (fun E hE => ?_) (fun hk => absurd hk hcd)
  rcases hE with ⟨h9, rfl⟩ | ⟨h9, rfl⟩
  · refine zx_catch (name := "java/lang/IndexOutOfBoundsException") K htab [] ⟨0, 10, 13, 13⟩ [⟨0, 10, 17, 15⟩] rfl (fun _ h => absurd h List.not_mem_nil) (by decide) (by decide) (by decide +kernel) (by decide) (fun q => ?_)
    refine z_astore (lv' := [(4, .ref q), (0, .ref aX), (1, .int w), (2, .int x), (3, .ref aO)]) K dL_addBeast_13 (by decide) rfl ?_
    refine z_iconst (v := 1) K dL_addBeast_15 (by decide) ?_
    exact z_iretX K trivial dL_addBeast_16 (by rw [h9]; rfl) [2, 4] rfl (by decide) (by decide)
  · refine zx_catch (name := "java/lang/IllegalStateException") K htab [⟨0, 10, 13, 13⟩] ⟨0, 10, 17, 15⟩ [] rfl (fun z hz => by rw [List.mem_singleton.mp hz]; exact ⟨by decide, "java/lang/IndexOutOfBoundsException", by decide +kernel, by decide⟩) (by decide) (by decide) (by decide +kernel) (by decide) (fun q => ?_)
    refine z_astore (lv' := [(4, .ref q), (0, .ref aX), (1, .int w), (2, .int x), (3, .ref aO)]) K dL_addBeast_17 (by decide) rfl ?_
    refine z_iconst (v := 2) K dL_addBeast_19 (by decide) ?_
    exact z_iretX K trivial dL_addBeast_20 (by rw [h9]; rfl) [2, 4] rfl (by decide) (by decide)

set_option maxRecDepth 100000 in
set_option maxHeartbeats 4000000 in
theorem w0_L_addVariant (l : Launch) (G : Nat → Prop) (D : va_G) (cI cJ : ClassId) (aX : Nat) (w : Int32) (x : Int32) (y : Int32) (z : Int32) (aO : Nat) (aB : Nat) (aL : Nat) (aT : Nat) (se : Int32) (n : Nat) (aB0 : Nat) (aB1 : Nat) (aB2 : Nat) (aB3 : Nat) (aB4 : Nat) (aB5 : Nat) (fm : Nat → Int32) (fb : Nat → Int32) (fh : Nat → Int32) (fp : Nat → Int32) (fv : Nat → Int32) (fa : Nat → Int32) (g : Nat → Int64) (hn : n ≤ 20) (hcd : cdAV w x y z n fb = 0) : z_MX l yL_addVariant wsL_addVariant { frames := 8, cells := 6, slots := 36, locals := 128 } G D [(cI, .int), (cJ, .long)] [.ref aX, .int w, .int x, .int y, .int z, .ref aO] [(aX, .inr (2, [.ref aB, .ref aL, .ref aT, .int se])), (aB, .inr (0, [.int (nI n), .ref aB0, .ref aB1, .ref aB2, .ref aB3, .ref aB4, .ref aB5])), (aB0, .inl (cI, 20, .inl fm)), (aB1, .inl (cI, 20, .inl fb)), (aB2, .inl (cI, 20, .inl fh)), (aB3, .inl (cI, 20, .inl fp)), (aB4, .inl (cI, 20, .inl fv)), (aB5, .inl (cI, 20, .inl fa)), (aO, .inl (cJ, 1, .inr (.inl g)))] (True) (some (.int 0)) [(aB, .inr (0, [.int (nI (n + 1)), .ref aB0, .ref aB1, .ref aB2, .ref aB3, .ref aB4, .ref aB5])), (aB0, .inl (cI, 20, .inl (upd fm n (fm (ix w))))), (aB1, .inl (cI, 20, .inl (upd fb n (tu (tu (fb (ix w)) x) y)))), (aB2, .inl (cI, 20, .inl (upd fh n z))), (aB3, .inl (cI, 20, .inl (upd fp n w))), (aB4, .inl (cI, 20, .inl (wrV fv n w))), (aB5, .inl (cI, 20, .inl (wrA fa n w))), (aO, .inl (cJ, 1, .inr (.inl (vp_updL g 0 (Int32.toInt64 (nI n))))))] (fun _ : String => False) [(aB, .inr (0, [.int (nI n), .ref aB0, .ref aB1, .ref aB2, .ref aB3, .ref aB4, .ref aB5])), (aB0, .inl (cI, 20, .inl fm)), (aB1, .inl (cI, 20, .inl fb)), (aB2, .inl (cI, 20, .inl fh)), (aB3, .inl (cI, 20, .inl fp)), (aB4, .inl (cI, 20, .inl fv)), (aB5, .inl (cI, 20, .inl fa)), (aO, .inl (cJ, 1, .inr (.inl g)))] 6 36 := by
  have iX2 : ∀ w ∈ u_ws RX2 TX2 4, w ∈ wsL_addVariant := fun w h => List.mem_cons_of_mem _ (List.mem_append_left _ (List.mem_append_left _ (List.mem_append_left _ (List.mem_append_right _ h))))
  have iX0 : ∀ w ∈ u_ws RX0 TX0 7, w ∈ wsL_addVariant := fun w h => List.mem_cons_of_mem _ (List.mem_append_left _ (List.mem_append_left _ (List.mem_append_right _ h)))
  have t62 : ∀ w ∈ (vx_atS "FableIndex" 62 z_ISE ["java/lang/RuntimeException", "java/lang/Exception"]).filter goodWord, w ∈ wsL_addVariant := fun w h => List.mem_cons_of_mem _ (List.mem_append_left _ (List.mem_append_right _ h))
  have t242 : ∀ w ∈ (vx_atS "FableIndex" 242 z_IOB ["java/lang/RuntimeException", "java/lang/Exception"]).filter goodWord, w ∈ wsL_addVariant := fun w h => List.mem_cons_of_mem _ (List.mem_append_right _ h)
  refine z_ofWXH (hh := [(0, 14, 17, 13), (0, 14, 21, 15)]) (cc := cL_addVariant) (nL := 7) (ret := (some .int)) (by decide) rfl (Nat.le_of_ble_eq_true rfl) [1, 2, 3, 4, 5, 6, 7, 8] rfl (lv0 := [(0, .ref aX), (1, .int w), (2, .int x), (3, .int y), (4, .int z), (5, .ref aO)]) rfl ?_
  intro p e s m args below meth c K htab
  refine z_aload K 5 dL_addVariant_0 rfl ?_
  refine z_iconst (v := 0) K dL_addVariant_2 (by decide) ?_
  refine z_aload_n K 0 dL_addVariant_3 rfl ?_
  refine z_iload_n K 1 dL_addVariant_4 rfl ?_
  refine z_iload_n K 2 dL_addVariant_5 rfl ?_
  refine z_iload_n K 3 dL_addVariant_6 rfl ?_
  refine z_iload K 4 dL_addVariant_7 rfl ?_
  refine z_callVX (ws' := [(aX, .inr (2, [.ref aB, .ref aL, .ref aT, .int se])), (aB, .inr (0, [.int (nI (n + 1)), .ref aB0, .ref aB1, .ref aB2, .ref aB3, .ref aB4, .ref aB5])), (aB0, .inl (cI, 20, .inl (upd fm n (fm (ix w))))), (aB1, .inl (cI, 20, .inl (upd fb n (tu (tu (fb (ix w)) x) y)))), (aB2, .inl (cI, 20, .inl (upd fh n z))), (aB3, .inl (cI, 20, .inl (upd fp n w))), (aB4, .inl (cI, 20, .inl (wrV fv n w))), (aB5, .inl (cI, 20, .inl (wrA fa n w))), (aO, .inl (cJ, 1, .inr (.inl g)))]) (st' := [.int (nI n), .int 0, .ref aO]) (rest := [.int 0, .ref aO]) (C := RX2) (T := TX2) (N := 4) K (m_X2_addVariant l G D cI cJ aX w x y z aB aL aT se n aB0 aB1 aB2 aB3 aB4 aB5 fm fb fh fp fv fa (by omega)) gL_addVariant_X2_addVariant rfl 4 2 (by decide +kernel) rfl dL_addVariant_9 [0, 1, 2, 3, 4, 5, 6, 7] 0 [1, 2, 3, 4, 5, 6, 7] [0, 1, 2, 3, 4, 5, 6] rfl rfl rfl ⟨by decide, by decide⟩ ⟨by decide, by decide⟩ rfl rfl rfl rfl rfl (Nat.le_of_ble_eq_true rfl) rfl rfl rfl rfl rfl rfl rfl (fun E hE => zx_no hcd hE) (fun _ => ?_)
  refine z_i2l K dL_addVariant_12 ?_
  refine z_lastN K 8 1 0 (by omega) (by omega) rfl rfl dL_addVariant_13 (z_memA 7 rfl) (ws' := [(aX, .inr (2, [.ref aB, .ref aL, .ref aT, .int se])), (aB, .inr (0, [.int (nI (n + 1)), .ref aB0, .ref aB1, .ref aB2, .ref aB3, .ref aB4, .ref aB5])), (aB0, .inl (cI, 20, .inl (upd fm n (fm (ix w))))), (aB1, .inl (cI, 20, .inl (upd fb n (tu (tu (fb (ix w)) x) y)))), (aB2, .inl (cI, 20, .inl (upd fh n z))), (aB3, .inl (cI, 20, .inl (upd fp n w))), (aB4, .inl (cI, 20, .inl (wrV fv n w))), (aB5, .inl (cI, 20, .inl (wrA fa n w))), (aO, .inl (cJ, 1, .inr (.inl (vp_updL g 0 (Int32.toInt64 (nI n))))))]) rfl ?_
  refine z_goto K 25 dL_addVariant_14 (by decide) ?_
  refine z_iconst (v := 0) K dL_addVariant_25 (by decide) ?_
  exact z_iretX K trivial dL_addVariant_26 (rfl) [1, 2, 3, 4, 5, 6, 7, 8] rfl (by decide) (by decide)

set_option maxRecDepth 100000 in
set_option maxHeartbeats 4000000 in
theorem w1_L_addVariant (l : Launch) (G : Nat → Prop) (D : va_G) (cI cJ : ClassId) (aX : Nat) (w : Int32) (x : Int32) (y : Int32) (z : Int32) (aO : Nat) (aB : Nat) (aL : Nat) (aT : Nat) (se : Int32) (n : Nat) (aB0 : Nat) (aB1 : Nat) (aB2 : Nat) (aB3 : Nat) (aB4 : Nat) (aB5 : Nat) (fm : Nat → Int32) (fb : Nat → Int32) (fh : Nat → Int32) (fp : Nat → Int32) (fv : Nat → Int32) (fa : Nat → Int32) (g : Nat → Int64) (hn : n ≤ 20) (hcd : ¬ cdAV w x y z n fb = 0) : z_MX l yL_addVariant wsL_addVariant { frames := 8, cells := 6, slots := 36, locals := 128 } G D [(cI, .int), (cJ, .long)] [.ref aX, .int w, .int x, .int y, .int z, .ref aO] [(aX, .inr (2, [.ref aB, .ref aL, .ref aT, .int se])), (aB, .inr (0, [.int (nI n), .ref aB0, .ref aB1, .ref aB2, .ref aB3, .ref aB4, .ref aB5])), (aB0, .inl (cI, 20, .inl fm)), (aB1, .inl (cI, 20, .inl fb)), (aB2, .inl (cI, 20, .inl fh)), (aB3, .inl (cI, 20, .inl fp)), (aB4, .inl (cI, 20, .inl fv)), (aB5, .inl (cI, 20, .inl fa)), (aO, .inl (cJ, 1, .inr (.inl g)))] (True) (some (.int (nI (cdAV w x y z n fb)))) [(aB, .inr (0, [.int (nI n), .ref aB0, .ref aB1, .ref aB2, .ref aB3, .ref aB4, .ref aB5])), (aB0, .inl (cI, 20, .inl fm)), (aB1, .inl (cI, 20, .inl fb)), (aB2, .inl (cI, 20, .inl fh)), (aB3, .inl (cI, 20, .inl fp)), (aB4, .inl (cI, 20, .inl fv)), (aB5, .inl (cI, 20, .inl fa)), (aO, .inl (cJ, 1, .inr (.inl g)))] (fun _ : String => False) [(aB, .inr (0, [.int (nI n), .ref aB0, .ref aB1, .ref aB2, .ref aB3, .ref aB4, .ref aB5])), (aB0, .inl (cI, 20, .inl fm)), (aB1, .inl (cI, 20, .inl fb)), (aB2, .inl (cI, 20, .inl fh)), (aB3, .inl (cI, 20, .inl fp)), (aB4, .inl (cI, 20, .inl fv)), (aB5, .inl (cI, 20, .inl fa)), (aO, .inl (cJ, 1, .inr (.inl g)))] 6 36 := by
  have iX2 : ∀ w ∈ u_ws RX2 TX2 4, w ∈ wsL_addVariant := fun w h => List.mem_cons_of_mem _ (List.mem_append_left _ (List.mem_append_left _ (List.mem_append_left _ (List.mem_append_right _ h))))
  have iX0 : ∀ w ∈ u_ws RX0 TX0 7, w ∈ wsL_addVariant := fun w h => List.mem_cons_of_mem _ (List.mem_append_left _ (List.mem_append_left _ (List.mem_append_right _ h)))
  have t62 : ∀ w ∈ (vx_atS "FableIndex" 62 z_ISE ["java/lang/RuntimeException", "java/lang/Exception"]).filter goodWord, w ∈ wsL_addVariant := fun w h => List.mem_cons_of_mem _ (List.mem_append_left _ (List.mem_append_right _ h))
  have t242 : ∀ w ∈ (vx_atS "FableIndex" 242 z_IOB ["java/lang/RuntimeException", "java/lang/Exception"]).filter goodWord, w ∈ wsL_addVariant := fun w h => List.mem_cons_of_mem _ (List.mem_append_right _ h)
  refine z_ofWXH (hh := [(0, 14, 17, 13), (0, 14, 21, 15)]) (cc := cL_addVariant) (nL := 7) (ret := (some .int)) (by decide) rfl (Nat.le_of_ble_eq_true rfl) [1, 2, 3, 4, 5, 6, 7, 8] rfl (lv0 := [(0, .ref aX), (1, .int w), (2, .int x), (3, .int y), (4, .int z), (5, .ref aO)]) rfl ?_
  intro p e s m args below meth c K htab
  refine z_aload K 5 dL_addVariant_0 rfl ?_
  refine z_iconst (v := 0) K dL_addVariant_2 (by decide) ?_
  refine z_aload_n K 0 dL_addVariant_3 rfl ?_
  refine z_iload_n K 1 dL_addVariant_4 rfl ?_
  refine z_iload_n K 2 dL_addVariant_5 rfl ?_
  refine z_iload_n K 3 dL_addVariant_6 rfl ?_
  refine z_iload K 4 dL_addVariant_7 rfl ?_
  refine z_callVX (ws' := [(aX, .inr (2, [.ref aB, .ref aL, .ref aT, .int se])), (aB, .inr (0, [.int (nI (n + 1)), .ref aB0, .ref aB1, .ref aB2, .ref aB3, .ref aB4, .ref aB5])), (aB0, .inl (cI, 20, .inl (upd fm n (fm (ix w))))), (aB1, .inl (cI, 20, .inl (upd fb n (tu (tu (fb (ix w)) x) y)))), (aB2, .inl (cI, 20, .inl (upd fh n z))), (aB3, .inl (cI, 20, .inl (upd fp n w))), (aB4, .inl (cI, 20, .inl (wrV fv n w))), (aB5, .inl (cI, 20, .inl (wrA fa n w))), (aO, .inl (cJ, 1, .inr (.inl g)))]) (st' := [.int (nI n), .int 0, .ref aO]) (rest := [.int 0, .ref aO]) (C := RX2) (T := TX2) (N := 4) K (m_X2_addVariant l G D cI cJ aX w x y z aB aL aT se n aB0 aB1 aB2 aB3 aB4 aB5 fm fb fh fp fv fa (by omega)) gL_addVariant_X2_addVariant rfl 4 2 (by decide +kernel) rfl dL_addVariant_9 [0, 1, 2, 3, 4, 5, 6, 7] 0 [1, 2, 3, 4, 5, 6, 7] [0, 1, 2, 3, 4, 5, 6] rfl rfl rfl ⟨by decide, by decide⟩ ⟨by decide, by decide⟩ rfl rfl rfl rfl rfl (Nat.le_of_ble_eq_true rfl) rfl rfl rfl rfl rfl rfl rfl (fun E hE => ?_) (fun hk => absurd hk hcd)
  rcases hE with ⟨h9, rfl⟩ | ⟨h9, rfl⟩
  · refine zx_catch (name := "java/lang/IndexOutOfBoundsException") K htab [] ⟨0, 14, 17, 13⟩ [⟨0, 14, 21, 15⟩] rfl (fun _ h => absurd h List.not_mem_nil) (by decide) (by decide) (by decide +kernel) (by decide) (fun q => ?_)
    refine z_astore (lv' := [(6, .ref q), (0, .ref aX), (1, .int w), (2, .int x), (3, .int y), (4, .int z), (5, .ref aO)]) K dL_addVariant_17 (by decide) rfl ?_
    refine z_iconst (v := 1) K dL_addVariant_19 (by decide) ?_
    exact z_iretX K trivial dL_addVariant_20 (by rw [h9]; rfl) [1, 2, 3, 4, 5, 6, 7, 8] rfl (by decide) (by decide)
  · refine zx_catch (name := "java/lang/IllegalStateException") K htab [⟨0, 14, 17, 13⟩] ⟨0, 14, 21, 15⟩ [] rfl (fun z hz => by rw [List.mem_singleton.mp hz]; exact ⟨by decide, "java/lang/IndexOutOfBoundsException", by decide +kernel, by decide⟩) (by decide) (by decide) (by decide +kernel) (by decide) (fun q => ?_)
    refine z_astore (lv' := [(6, .ref q), (0, .ref aX), (1, .int w), (2, .int x), (3, .int y), (4, .int z), (5, .ref aO)]) K dL_addVariant_21 (by decide) rfl ?_
    refine z_iconst (v := 2) K dL_addVariant_23 (by decide) ?_
    exact z_iretX K trivial dL_addVariant_24 (by rw [h9]; rfl) [1, 2, 3, 4, 5, 6, 7, 8] rfl (by decide) (by decide)

set_option maxRecDepth 100000 in
set_option maxHeartbeats 4000000 in
theorem w0_L_turnPass (l : Launch) (G : Nat → Prop) (D : va_G) (cI cJ : ClassId) (aX : Nat) (w : Int32) (x : Int32) (aO : Nat) (aB : Nat) (aL : Nat) (aT : Nat) (se : Int32) (aL0 : Nat) (aL1 : Nat) (aL2 : Nat) (aL3 : Nat) (aL4 : Nat) (aL5 : Nat) (hu : Int32) (lw : Nat → Int32) (g : Nat → Int64) (hcd : cdTP w x = 0) : z_MX l yL_turnPass wsL_turnPass { frames := 8, cells := 6, slots := 36, locals := 124 } G D [(cI, .int), (cJ, .long)] [.ref aX, .int w, .int x, .ref aO] [(aX, .inr (2, [.ref aB, .ref aL, .ref aT, .int se])), (aL, .inr (1, [.ref aL0, .ref aL1, .ref aL2, .ref aL3, .ref aL4, .ref aL5, .int hu])), (aL0, .inl (cI, 6, .inl lw)), (aO, .inl (cJ, 1, .inr (.inl g)))] (True) (some (.int 0)) [(aL0, .inl (cI, 6, .inl (turnW lw (ix w) (ix x)))), (aO, .inl (cJ, 1, .inr (.inl (vp_updL g 0 (Int32.toInt64 (z_b (hs (turnW lw (ix w) (ix x) (ix w)) x)))))))] (fun _ : String => False) [(aL0, .inl (cI, 6, .inl lw)), (aO, .inl (cJ, 1, .inr (.inl g)))] 6 36 := by
  have iX2 : ∀ w ∈ u_ws RX2 TX2 4, w ∈ wsL_turnPass := fun w h => List.mem_cons_of_mem _ (List.mem_append_left _ (List.mem_append_left _ (List.mem_append_left _ (List.mem_append_right _ h))))
  have iX1 : ∀ w ∈ u_ws RX1 TX1 7, w ∈ wsL_turnPass := fun w h => List.mem_cons_of_mem _ (List.mem_append_left _ (List.mem_append_left _ (List.mem_append_right _ h)))
  have t89 : ∀ w ∈ (vx_atS "FableIndex" 89 z_IAE ["java/lang/RuntimeException", "java/lang/Exception"]).filter goodWord, w ∈ wsL_turnPass := fun w h => List.mem_cons_of_mem _ (List.mem_append_left _ (List.mem_append_right _ h))
  have t242 : ∀ w ∈ (vx_atS "FableIndex" 242 z_IOB ["java/lang/RuntimeException", "java/lang/Exception"]).filter goodWord, w ∈ wsL_turnPass := fun w h => List.mem_cons_of_mem _ (List.mem_append_right _ h)
  refine z_ofWXH (hh := [(0, 17, 20, 13), (0, 17, 24, 29)]) (cc := cL_turnPass) (nL := 5) (ret := (some .int)) (by decide) rfl (Nat.le_of_ble_eq_true rfl) [2, 3] rfl (lv0 := [(0, .ref aX), (1, .int w), (2, .int x), (3, .ref aO)]) rfl ?_
  intro p e s m args below meth c K htab
  refine z_aload_n K 3 dL_turnPass_0 rfl ?_
  refine z_iconst (v := 0) K dL_turnPass_1 (by decide) ?_
  refine z_aload_n K 0 dL_turnPass_2 rfl ?_
  refine z_iload_n K 1 dL_turnPass_3 rfl ?_
  refine z_iload_n K 2 dL_turnPass_4 rfl ?_
  refine z_callVX (ws' := [(aX, .inr (2, [.ref aB, .ref aL, .ref aT, .int se])), (aL, .inr (1, [.ref aL0, .ref aL1, .ref aL2, .ref aL3, .ref aL4, .ref aL5, .int hu])), (aL0, .inl (cI, 6, .inl (turnW lw (ix w) (ix x)))), (aO, .inl (cJ, 1, .inr (.inl g)))]) (st' := [.int (z_b (hs (turnW lw (ix w) (ix x) (ix w)) x)), .int 0, .ref aO]) (rest := [.int 0, .ref aO]) (C := RX2) (T := TX2) (N := 4) K (m_X2_turnPass l G D cI cJ aX w x aB aL aT se aL0 aL1 aL2 aL3 aL4 aL5 hu lw ) gL_turnPass_X2_turnPass rfl 2 2 (by decide +kernel) rfl dL_turnPass_5 [0, 1, 2] 0 [2] [0] rfl rfl rfl ⟨by decide, by decide⟩ ⟨by decide, by decide⟩ rfl rfl rfl rfl rfl (Nat.le_of_ble_eq_true rfl) rfl rfl rfl rfl rfl rfl rfl (fun E hE => zx_no hcd hE) (fun _ => ?_)
  refine z_if_eqB K 15 dL_turnPass_8 (by decide) (fun c8 => ?_) (fun c8 => ?_)
  · refine z_lconst (v := 0) K dL_turnPass_15 (by decide) ?_
    refine z_lastN K 3 1 0 (by omega) (by omega) rfl rfl dL_turnPass_16 (z_memA 1 rfl) (ws' := [(aX, .inr (2, [.ref aB, .ref aL, .ref aT, .int se])), (aL, .inr (1, [.ref aL0, .ref aL1, .ref aL2, .ref aL3, .ref aL4, .ref aL5, .int hu])), (aL0, .inl (cI, 6, .inl (turnW lw (ix w) (ix x)))), (aO, .inl (cJ, 1, .inr (.inl (vp_updL g 0 0))))]) rfl ?_
    refine z_goto K 28 dL_turnPass_17 (by decide) ?_
    refine z_iconst (v := 0) K dL_turnPass_28 (by decide) ?_
    exact z_iretX K trivial dL_turnPass_29 (rfl) [2, 3] (by rw [show (vp_updL g 0 (Int32.toInt64 (z_b (hs (turnW lw (ix w) (ix x) (ix w)) x)))) = (vp_updL g 0 0) from (by rw [c8]; rfl)]; rfl) (by decide) (by decide)
  · refine z_lconst (v := 1) K dL_turnPass_11 (by decide) ?_
    refine z_goto K 16 dL_turnPass_12 (by decide) ?_
    refine z_lastN K 3 1 0 (by omega) (by omega) rfl rfl dL_turnPass_16 (z_memA 1 rfl) (ws' := [(aX, .inr (2, [.ref aB, .ref aL, .ref aT, .int se])), (aL, .inr (1, [.ref aL0, .ref aL1, .ref aL2, .ref aL3, .ref aL4, .ref aL5, .int hu])), (aL0, .inl (cI, 6, .inl (turnW lw (ix w) (ix x)))), (aO, .inl (cJ, 1, .inr (.inl (vp_updL g 0 1))))]) rfl ?_
    refine z_goto K 28 dL_turnPass_17 (by decide) ?_
    refine z_iconst (v := 0) K dL_turnPass_28 (by decide) ?_
    exact z_iretX K trivial dL_turnPass_29 (rfl) [2, 3] (by rw [show (vp_updL g 0 (Int32.toInt64 (z_b (hs (turnW lw (ix w) (ix x) (ix w)) x)))) = (vp_updL g 0 1) from (by rw [c8]; rfl)]; rfl) (by decide) (by decide)

set_option maxRecDepth 100000 in
set_option maxHeartbeats 4000000 in
theorem w1_L_turnPass (l : Launch) (G : Nat → Prop) (D : va_G) (cI cJ : ClassId) (aX : Nat) (w : Int32) (x : Int32) (aO : Nat) (aB : Nat) (aL : Nat) (aT : Nat) (se : Int32) (aL0 : Nat) (aL1 : Nat) (aL2 : Nat) (aL3 : Nat) (aL4 : Nat) (aL5 : Nat) (hu : Int32) (lw : Nat → Int32) (g : Nat → Int64) (hcd : ¬ cdTP w x = 0) : z_MX l yL_turnPass wsL_turnPass { frames := 8, cells := 6, slots := 36, locals := 124 } G D [(cI, .int), (cJ, .long)] [.ref aX, .int w, .int x, .ref aO] [(aX, .inr (2, [.ref aB, .ref aL, .ref aT, .int se])), (aL, .inr (1, [.ref aL0, .ref aL1, .ref aL2, .ref aL3, .ref aL4, .ref aL5, .int hu])), (aL0, .inl (cI, 6, .inl lw)), (aO, .inl (cJ, 1, .inr (.inl g)))] (True) (some (.int (nI (cdTP w x)))) [(aL0, .inl (cI, 6, .inl lw)), (aO, .inl (cJ, 1, .inr (.inl g)))] (fun _ : String => False) [(aL0, .inl (cI, 6, .inl lw)), (aO, .inl (cJ, 1, .inr (.inl g)))] 6 36 := by
  have iX2 : ∀ w ∈ u_ws RX2 TX2 4, w ∈ wsL_turnPass := fun w h => List.mem_cons_of_mem _ (List.mem_append_left _ (List.mem_append_left _ (List.mem_append_left _ (List.mem_append_right _ h))))
  have iX1 : ∀ w ∈ u_ws RX1 TX1 7, w ∈ wsL_turnPass := fun w h => List.mem_cons_of_mem _ (List.mem_append_left _ (List.mem_append_left _ (List.mem_append_right _ h)))
  have t89 : ∀ w ∈ (vx_atS "FableIndex" 89 z_IAE ["java/lang/RuntimeException", "java/lang/Exception"]).filter goodWord, w ∈ wsL_turnPass := fun w h => List.mem_cons_of_mem _ (List.mem_append_left _ (List.mem_append_right _ h))
  have t242 : ∀ w ∈ (vx_atS "FableIndex" 242 z_IOB ["java/lang/RuntimeException", "java/lang/Exception"]).filter goodWord, w ∈ wsL_turnPass := fun w h => List.mem_cons_of_mem _ (List.mem_append_right _ h)
  refine z_ofWXH (hh := [(0, 17, 20, 13), (0, 17, 24, 29)]) (cc := cL_turnPass) (nL := 5) (ret := (some .int)) (by decide) rfl (Nat.le_of_ble_eq_true rfl) [2, 3] rfl (lv0 := [(0, .ref aX), (1, .int w), (2, .int x), (3, .ref aO)]) rfl ?_
  intro p e s m args below meth c K htab
  refine z_aload_n K 3 dL_turnPass_0 rfl ?_
  refine z_iconst (v := 0) K dL_turnPass_1 (by decide) ?_
  refine z_aload_n K 0 dL_turnPass_2 rfl ?_
  refine z_iload_n K 1 dL_turnPass_3 rfl ?_
  refine z_iload_n K 2 dL_turnPass_4 rfl ?_
  refine z_callVX (ws' := [(aX, .inr (2, [.ref aB, .ref aL, .ref aT, .int se])), (aL, .inr (1, [.ref aL0, .ref aL1, .ref aL2, .ref aL3, .ref aL4, .ref aL5, .int hu])), (aL0, .inl (cI, 6, .inl (turnW lw (ix w) (ix x)))), (aO, .inl (cJ, 1, .inr (.inl g)))]) (st' := [.int (z_b (hs (turnW lw (ix w) (ix x) (ix w)) x)), .int 0, .ref aO]) (rest := [.int 0, .ref aO]) (C := RX2) (T := TX2) (N := 4) K (m_X2_turnPass l G D cI cJ aX w x aB aL aT se aL0 aL1 aL2 aL3 aL4 aL5 hu lw ) gL_turnPass_X2_turnPass rfl 2 2 (by decide +kernel) rfl dL_turnPass_5 [0, 1, 2] 0 [2] [0] rfl rfl rfl ⟨by decide, by decide⟩ ⟨by decide, by decide⟩ rfl rfl rfl rfl rfl (Nat.le_of_ble_eq_true rfl) rfl rfl rfl rfl rfl rfl rfl (fun E hE => ?_) (fun hk => absurd hk hcd)
  rcases hE with ⟨h9, rfl⟩ | ⟨h9, rfl⟩
  · refine zx_catch (name := "java/lang/IndexOutOfBoundsException") K htab [] ⟨0, 17, 20, 13⟩ [⟨0, 17, 24, 29⟩] rfl (fun _ h => absurd h List.not_mem_nil) (by decide) (by decide) (by decide +kernel) (by decide) (fun q => ?_)
    refine z_astore (lv' := [(4, .ref q), (0, .ref aX), (1, .int w), (2, .int x), (3, .ref aO)]) K dL_turnPass_20 (by decide) rfl ?_
    refine z_iconst (v := 1) K dL_turnPass_22 (by decide) ?_
    exact z_iretX K trivial dL_turnPass_23 (by rw [h9]; rfl) [2, 3] rfl (by decide) (by decide)
  · refine zx_catch (name := "java/lang/IllegalArgumentException") K htab [⟨0, 17, 20, 13⟩] ⟨0, 17, 24, 29⟩ [] rfl (fun z hz => by rw [List.mem_singleton.mp hz]; exact ⟨by decide, "java/lang/IndexOutOfBoundsException", by decide +kernel, by decide⟩) (by decide) (by decide) (by decide +kernel) (by decide) (fun q => ?_)
    refine z_astore (lv' := [(4, .ref q), (0, .ref aX), (1, .int w), (2, .int x), (3, .ref aO)]) K dL_turnPass_24 (by decide) rfl ?_
    refine z_iconst (v := 2) K dL_turnPass_26 (by decide) ?_
    exact z_iretX K trivial dL_turnPass_27 (by rw [h9]; rfl) [2, 3] rfl (by decide) (by decide)

set_option maxRecDepth 100000 in
set_option maxHeartbeats 4000000 in
theorem w0_L_turnMoral (l : Launch) (G : Nat → Prop) (D : va_G) (cI cJ : ClassId) (aX : Nat) (w : Int32) (x : Int32) (aO : Nat) (aB : Nat) (aL : Nat) (aT : Nat) (se : Int32) (aL0 : Nat) (aL1 : Nat) (aL2 : Nat) (aL3 : Nat) (aL4 : Nat) (aL5 : Nat) (hu : Int32) (lm : Nat → Int32) (g : Nat → Int64) (hcd : cd1 (fin w 6 && fin x 10) = 0) : z_MX l yL_turnMoral wsL_turnMoral { frames := 8, cells := 6, slots := 36, locals := 124 } G D [(cI, .int), (cJ, .long)] [.ref aX, .int w, .int x, .ref aO] [(aX, .inr (2, [.ref aB, .ref aL, .ref aT, .int se])), (aL, .inr (1, [.ref aL0, .ref aL1, .ref aL2, .ref aL3, .ref aL4, .ref aL5, .int hu])), (aL1, .inl (cI, 6, .inl lm)), (aO, .inl (cJ, 1, .inr (.inl g)))] (True) (some (.int 0)) [(aL1, .inl (cI, 6, .inl (upd lm (ix w) (tu (lm (ix w)) x)))), (aO, .inl (cJ, 1, .inr (.inl (vp_updL g 0 (Int32.toInt64 (z_b (hs (upd lm (ix w) (tu (lm (ix w)) x) (ix w)) x)))))))] (fun _ : String => False) [(aL1, .inl (cI, 6, .inl lm)), (aO, .inl (cJ, 1, .inr (.inl g)))] 6 36 := by
  have iX2 : ∀ w ∈ u_ws RX2 TX2 4, w ∈ wsL_turnMoral := fun w h => List.mem_cons_of_mem _ (List.mem_append_left _ (List.mem_append_left _ (List.mem_append_right _ h)))
  have iX1 : ∀ w ∈ u_ws RX1 TX1 7, w ∈ wsL_turnMoral := fun w h => List.mem_cons_of_mem _ (List.mem_append_left _ (List.mem_append_right _ h))
  have t242 : ∀ w ∈ (vx_atS "FableIndex" 242 z_IOB ["java/lang/RuntimeException", "java/lang/Exception"]).filter goodWord, w ∈ wsL_turnMoral := fun w h => List.mem_cons_of_mem _ (List.mem_append_right _ h)
  refine z_ofWXH (hh := [(0, 17, 20, 13)]) (cc := cL_turnMoral) (nL := 5) (ret := (some .int)) (by decide) rfl (Nat.le_of_ble_eq_true rfl) [2, 3] rfl (lv0 := [(0, .ref aX), (1, .int w), (2, .int x), (3, .ref aO)]) rfl ?_
  intro p e s m args below meth c K htab
  refine z_aload_n K 3 dL_turnMoral_0 rfl ?_
  refine z_iconst (v := 0) K dL_turnMoral_1 (by decide) ?_
  refine z_aload_n K 0 dL_turnMoral_2 rfl ?_
  refine z_iload_n K 1 dL_turnMoral_3 rfl ?_
  refine z_iload_n K 2 dL_turnMoral_4 rfl ?_
  refine z_callVX (ws' := [(aX, .inr (2, [.ref aB, .ref aL, .ref aT, .int se])), (aL, .inr (1, [.ref aL0, .ref aL1, .ref aL2, .ref aL3, .ref aL4, .ref aL5, .int hu])), (aL1, .inl (cI, 6, .inl (upd lm (ix w) (tu (lm (ix w)) x)))), (aO, .inl (cJ, 1, .inr (.inl g)))]) (st' := [.int (z_b (hs (upd lm (ix w) (tu (lm (ix w)) x) (ix w)) x)), .int 0, .ref aO]) (rest := [.int 0, .ref aO]) (C := RX2) (T := TX2) (N := 4) K (m_X2_turnMoral l G D cI cJ aX w x aB aL aT se aL0 aL1 aL2 aL3 aL4 aL5 hu lm ) gL_turnMoral_X2_turnMoral rfl 2 2 (by decide +kernel) rfl dL_turnMoral_5 [0, 1, 2] 0 [2] [0] rfl rfl rfl ⟨by decide, by decide⟩ ⟨by decide, by decide⟩ rfl rfl rfl rfl rfl (Nat.le_of_ble_eq_true rfl) rfl rfl rfl rfl rfl rfl rfl (fun E hE => zx_no hcd hE) (fun _ => ?_)
  refine z_if_eqB K 15 dL_turnMoral_8 (by decide) (fun c8 => ?_) (fun c8 => ?_)
  · refine z_lconst (v := 0) K dL_turnMoral_15 (by decide) ?_
    refine z_lastN K 3 1 0 (by omega) (by omega) rfl rfl dL_turnMoral_16 (z_memA 1 rfl) (ws' := [(aX, .inr (2, [.ref aB, .ref aL, .ref aT, .int se])), (aL, .inr (1, [.ref aL0, .ref aL1, .ref aL2, .ref aL3, .ref aL4, .ref aL5, .int hu])), (aL1, .inl (cI, 6, .inl (upd lm (ix w) (tu (lm (ix w)) x)))), (aO, .inl (cJ, 1, .inr (.inl (vp_updL g 0 0))))]) rfl ?_
    refine z_goto K 24 dL_turnMoral_17 (by decide) ?_
    refine z_iconst (v := 0) K dL_turnMoral_24 (by decide) ?_
    exact z_iretX K trivial dL_turnMoral_25 (rfl) [2, 3] (by rw [show (vp_updL g 0 (Int32.toInt64 (z_b (hs (upd lm (ix w) (tu (lm (ix w)) x) (ix w)) x)))) = (vp_updL g 0 0) from (by rw [c8]; rfl)]; rfl) (by decide) (by decide)
  · refine z_lconst (v := 1) K dL_turnMoral_11 (by decide) ?_
    refine z_goto K 16 dL_turnMoral_12 (by decide) ?_
    refine z_lastN K 3 1 0 (by omega) (by omega) rfl rfl dL_turnMoral_16 (z_memA 1 rfl) (ws' := [(aX, .inr (2, [.ref aB, .ref aL, .ref aT, .int se])), (aL, .inr (1, [.ref aL0, .ref aL1, .ref aL2, .ref aL3, .ref aL4, .ref aL5, .int hu])), (aL1, .inl (cI, 6, .inl (upd lm (ix w) (tu (lm (ix w)) x)))), (aO, .inl (cJ, 1, .inr (.inl (vp_updL g 0 1))))]) rfl ?_
    refine z_goto K 24 dL_turnMoral_17 (by decide) ?_
    refine z_iconst (v := 0) K dL_turnMoral_24 (by decide) ?_
    exact z_iretX K trivial dL_turnMoral_25 (rfl) [2, 3] (by rw [show (vp_updL g 0 (Int32.toInt64 (z_b (hs (upd lm (ix w) (tu (lm (ix w)) x) (ix w)) x)))) = (vp_updL g 0 1) from (by rw [c8]; rfl)]; rfl) (by decide) (by decide)

set_option maxRecDepth 100000 in
set_option maxHeartbeats 4000000 in
theorem w1_L_turnMoral (l : Launch) (G : Nat → Prop) (D : va_G) (cI cJ : ClassId) (aX : Nat) (w : Int32) (x : Int32) (aO : Nat) (aB : Nat) (aL : Nat) (aT : Nat) (se : Int32) (aL0 : Nat) (aL1 : Nat) (aL2 : Nat) (aL3 : Nat) (aL4 : Nat) (aL5 : Nat) (hu : Int32) (lm : Nat → Int32) (g : Nat → Int64) (hcd : ¬ cd1 (fin w 6 && fin x 10) = 0) : z_MX l yL_turnMoral wsL_turnMoral { frames := 8, cells := 6, slots := 36, locals := 124 } G D [(cI, .int), (cJ, .long)] [.ref aX, .int w, .int x, .ref aO] [(aX, .inr (2, [.ref aB, .ref aL, .ref aT, .int se])), (aL, .inr (1, [.ref aL0, .ref aL1, .ref aL2, .ref aL3, .ref aL4, .ref aL5, .int hu])), (aL1, .inl (cI, 6, .inl lm)), (aO, .inl (cJ, 1, .inr (.inl g)))] (True) (some (.int (nI (cd1 (fin w 6 && fin x 10))))) [(aL1, .inl (cI, 6, .inl lm)), (aO, .inl (cJ, 1, .inr (.inl g)))] (fun _ : String => False) [(aL1, .inl (cI, 6, .inl lm)), (aO, .inl (cJ, 1, .inr (.inl g)))] 6 36 := by
  have iX2 : ∀ w ∈ u_ws RX2 TX2 4, w ∈ wsL_turnMoral := fun w h => List.mem_cons_of_mem _ (List.mem_append_left _ (List.mem_append_left _ (List.mem_append_right _ h)))
  have iX1 : ∀ w ∈ u_ws RX1 TX1 7, w ∈ wsL_turnMoral := fun w h => List.mem_cons_of_mem _ (List.mem_append_left _ (List.mem_append_right _ h))
  have t242 : ∀ w ∈ (vx_atS "FableIndex" 242 z_IOB ["java/lang/RuntimeException", "java/lang/Exception"]).filter goodWord, w ∈ wsL_turnMoral := fun w h => List.mem_cons_of_mem _ (List.mem_append_right _ h)
  refine z_ofWXH (hh := [(0, 17, 20, 13)]) (cc := cL_turnMoral) (nL := 5) (ret := (some .int)) (by decide) rfl (Nat.le_of_ble_eq_true rfl) [2, 3] rfl (lv0 := [(0, .ref aX), (1, .int w), (2, .int x), (3, .ref aO)]) rfl ?_
  intro p e s m args below meth c K htab
  refine z_aload_n K 3 dL_turnMoral_0 rfl ?_
  refine z_iconst (v := 0) K dL_turnMoral_1 (by decide) ?_
  refine z_aload_n K 0 dL_turnMoral_2 rfl ?_
  refine z_iload_n K 1 dL_turnMoral_3 rfl ?_
  refine z_iload_n K 2 dL_turnMoral_4 rfl ?_
  refine z_callVX (ws' := [(aX, .inr (2, [.ref aB, .ref aL, .ref aT, .int se])), (aL, .inr (1, [.ref aL0, .ref aL1, .ref aL2, .ref aL3, .ref aL4, .ref aL5, .int hu])), (aL1, .inl (cI, 6, .inl (upd lm (ix w) (tu (lm (ix w)) x)))), (aO, .inl (cJ, 1, .inr (.inl g)))]) (st' := [.int (z_b (hs (upd lm (ix w) (tu (lm (ix w)) x) (ix w)) x)), .int 0, .ref aO]) (rest := [.int 0, .ref aO]) (C := RX2) (T := TX2) (N := 4) K (m_X2_turnMoral l G D cI cJ aX w x aB aL aT se aL0 aL1 aL2 aL3 aL4 aL5 hu lm ) gL_turnMoral_X2_turnMoral rfl 2 2 (by decide +kernel) rfl dL_turnMoral_5 [0, 1, 2] 0 [2] [0] rfl rfl rfl ⟨by decide, by decide⟩ ⟨by decide, by decide⟩ rfl rfl rfl rfl rfl (Nat.le_of_ble_eq_true rfl) rfl rfl rfl rfl rfl rfl rfl (fun E hE => ?_) (fun hk => absurd hk hcd)
  rcases hE with ⟨h9, rfl⟩ | ⟨h9, rfl⟩
  · refine zx_catch (name := "java/lang/IndexOutOfBoundsException") K htab [] ⟨0, 17, 20, 13⟩ [] rfl (fun _ h => absurd h List.not_mem_nil) (by decide) (by decide) (by decide +kernel) (by decide) (fun q => ?_)
    refine z_astore (lv' := [(4, .ref q), (0, .ref aX), (1, .int w), (2, .int x), (3, .ref aO)]) K dL_turnMoral_20 (by decide) rfl ?_
    refine z_iconst (v := 1) K dL_turnMoral_22 (by decide) ?_
    exact z_iretX K trivial dL_turnMoral_23 (by rw [h9]; rfl) [2, 3] rfl (by decide) (by decide)
  · exact absurd h9 cd1_ne2

set_option maxRecDepth 100000 in
set_option maxHeartbeats 4000000 in
theorem w0_L_turnBeast (l : Launch) (G : Nat → Prop) (D : va_G) (cI cJ : ClassId) (aX : Nat) (w : Int32) (x : Int32) (aO : Nat) (aB : Nat) (aL : Nat) (aT : Nat) (se : Int32) (aL0 : Nat) (aL1 : Nat) (aL2 : Nat) (aL3 : Nat) (aL4 : Nat) (aL5 : Nat) (hu : Int32) (lb : Nat → Int32) (g : Nat → Int64) (hcd : cd1 (fin w 6 && fin x 12) = 0) : z_MX l yL_turnBeast wsL_turnBeast { frames := 8, cells := 6, slots := 36, locals := 124 } G D [(cI, .int), (cJ, .long)] [.ref aX, .int w, .int x, .ref aO] [(aX, .inr (2, [.ref aB, .ref aL, .ref aT, .int se])), (aL, .inr (1, [.ref aL0, .ref aL1, .ref aL2, .ref aL3, .ref aL4, .ref aL5, .int hu])), (aL2, .inl (cI, 6, .inl lb)), (aO, .inl (cJ, 1, .inr (.inl g)))] (True) (some (.int 0)) [(aL2, .inl (cI, 6, .inl (upd lb (ix w) (tu (lb (ix w)) x)))), (aO, .inl (cJ, 1, .inr (.inl (vp_updL g 0 (Int32.toInt64 (z_b (hs (upd lb (ix w) (tu (lb (ix w)) x) (ix w)) x)))))))] (fun _ : String => False) [(aL2, .inl (cI, 6, .inl lb)), (aO, .inl (cJ, 1, .inr (.inl g)))] 6 36 := by
  have iX2 : ∀ w ∈ u_ws RX2 TX2 4, w ∈ wsL_turnBeast := fun w h => List.mem_cons_of_mem _ (List.mem_append_left _ (List.mem_append_left _ (List.mem_append_right _ h)))
  have iX1 : ∀ w ∈ u_ws RX1 TX1 7, w ∈ wsL_turnBeast := fun w h => List.mem_cons_of_mem _ (List.mem_append_left _ (List.mem_append_right _ h))
  have t242 : ∀ w ∈ (vx_atS "FableIndex" 242 z_IOB ["java/lang/RuntimeException", "java/lang/Exception"]).filter goodWord, w ∈ wsL_turnBeast := fun w h => List.mem_cons_of_mem _ (List.mem_append_right _ h)
  refine z_ofWXH (hh := [(0, 17, 20, 13)]) (cc := cL_turnBeast) (nL := 5) (ret := (some .int)) (by decide) rfl (Nat.le_of_ble_eq_true rfl) [2, 3] rfl (lv0 := [(0, .ref aX), (1, .int w), (2, .int x), (3, .ref aO)]) rfl ?_
  intro p e s m args below meth c K htab
  refine z_aload_n K 3 dL_turnBeast_0 rfl ?_
  refine z_iconst (v := 0) K dL_turnBeast_1 (by decide) ?_
  refine z_aload_n K 0 dL_turnBeast_2 rfl ?_
  refine z_iload_n K 1 dL_turnBeast_3 rfl ?_
  refine z_iload_n K 2 dL_turnBeast_4 rfl ?_
  refine z_callVX (ws' := [(aX, .inr (2, [.ref aB, .ref aL, .ref aT, .int se])), (aL, .inr (1, [.ref aL0, .ref aL1, .ref aL2, .ref aL3, .ref aL4, .ref aL5, .int hu])), (aL2, .inl (cI, 6, .inl (upd lb (ix w) (tu (lb (ix w)) x)))), (aO, .inl (cJ, 1, .inr (.inl g)))]) (st' := [.int (z_b (hs (upd lb (ix w) (tu (lb (ix w)) x) (ix w)) x)), .int 0, .ref aO]) (rest := [.int 0, .ref aO]) (C := RX2) (T := TX2) (N := 4) K (m_X2_turnBeast l G D cI cJ aX w x aB aL aT se aL0 aL1 aL2 aL3 aL4 aL5 hu lb ) gL_turnBeast_X2_turnBeast rfl 2 2 (by decide +kernel) rfl dL_turnBeast_5 [0, 1, 2] 0 [2] [0] rfl rfl rfl ⟨by decide, by decide⟩ ⟨by decide, by decide⟩ rfl rfl rfl rfl rfl (Nat.le_of_ble_eq_true rfl) rfl rfl rfl rfl rfl rfl rfl (fun E hE => zx_no hcd hE) (fun _ => ?_)
  refine z_if_eqB K 15 dL_turnBeast_8 (by decide) (fun c8 => ?_) (fun c8 => ?_)
  · refine z_lconst (v := 0) K dL_turnBeast_15 (by decide) ?_
    refine z_lastN K 3 1 0 (by omega) (by omega) rfl rfl dL_turnBeast_16 (z_memA 1 rfl) (ws' := [(aX, .inr (2, [.ref aB, .ref aL, .ref aT, .int se])), (aL, .inr (1, [.ref aL0, .ref aL1, .ref aL2, .ref aL3, .ref aL4, .ref aL5, .int hu])), (aL2, .inl (cI, 6, .inl (upd lb (ix w) (tu (lb (ix w)) x)))), (aO, .inl (cJ, 1, .inr (.inl (vp_updL g 0 0))))]) rfl ?_
    refine z_goto K 24 dL_turnBeast_17 (by decide) ?_
    refine z_iconst (v := 0) K dL_turnBeast_24 (by decide) ?_
    exact z_iretX K trivial dL_turnBeast_25 (rfl) [2, 3] (by rw [show (vp_updL g 0 (Int32.toInt64 (z_b (hs (upd lb (ix w) (tu (lb (ix w)) x) (ix w)) x)))) = (vp_updL g 0 0) from (by rw [c8]; rfl)]; rfl) (by decide) (by decide)
  · refine z_lconst (v := 1) K dL_turnBeast_11 (by decide) ?_
    refine z_goto K 16 dL_turnBeast_12 (by decide) ?_
    refine z_lastN K 3 1 0 (by omega) (by omega) rfl rfl dL_turnBeast_16 (z_memA 1 rfl) (ws' := [(aX, .inr (2, [.ref aB, .ref aL, .ref aT, .int se])), (aL, .inr (1, [.ref aL0, .ref aL1, .ref aL2, .ref aL3, .ref aL4, .ref aL5, .int hu])), (aL2, .inl (cI, 6, .inl (upd lb (ix w) (tu (lb (ix w)) x)))), (aO, .inl (cJ, 1, .inr (.inl (vp_updL g 0 1))))]) rfl ?_
    refine z_goto K 24 dL_turnBeast_17 (by decide) ?_
    refine z_iconst (v := 0) K dL_turnBeast_24 (by decide) ?_
    exact z_iretX K trivial dL_turnBeast_25 (rfl) [2, 3] (by rw [show (vp_updL g 0 (Int32.toInt64 (z_b (hs (upd lb (ix w) (tu (lb (ix w)) x) (ix w)) x)))) = (vp_updL g 0 1) from (by rw [c8]; rfl)]; rfl) (by decide) (by decide)

set_option maxRecDepth 100000 in
set_option maxHeartbeats 4000000 in
theorem w1_L_turnBeast (l : Launch) (G : Nat → Prop) (D : va_G) (cI cJ : ClassId) (aX : Nat) (w : Int32) (x : Int32) (aO : Nat) (aB : Nat) (aL : Nat) (aT : Nat) (se : Int32) (aL0 : Nat) (aL1 : Nat) (aL2 : Nat) (aL3 : Nat) (aL4 : Nat) (aL5 : Nat) (hu : Int32) (lb : Nat → Int32) (g : Nat → Int64) (hcd : ¬ cd1 (fin w 6 && fin x 12) = 0) : z_MX l yL_turnBeast wsL_turnBeast { frames := 8, cells := 6, slots := 36, locals := 124 } G D [(cI, .int), (cJ, .long)] [.ref aX, .int w, .int x, .ref aO] [(aX, .inr (2, [.ref aB, .ref aL, .ref aT, .int se])), (aL, .inr (1, [.ref aL0, .ref aL1, .ref aL2, .ref aL3, .ref aL4, .ref aL5, .int hu])), (aL2, .inl (cI, 6, .inl lb)), (aO, .inl (cJ, 1, .inr (.inl g)))] (True) (some (.int (nI (cd1 (fin w 6 && fin x 12))))) [(aL2, .inl (cI, 6, .inl lb)), (aO, .inl (cJ, 1, .inr (.inl g)))] (fun _ : String => False) [(aL2, .inl (cI, 6, .inl lb)), (aO, .inl (cJ, 1, .inr (.inl g)))] 6 36 := by
  have iX2 : ∀ w ∈ u_ws RX2 TX2 4, w ∈ wsL_turnBeast := fun w h => List.mem_cons_of_mem _ (List.mem_append_left _ (List.mem_append_left _ (List.mem_append_right _ h)))
  have iX1 : ∀ w ∈ u_ws RX1 TX1 7, w ∈ wsL_turnBeast := fun w h => List.mem_cons_of_mem _ (List.mem_append_left _ (List.mem_append_right _ h))
  have t242 : ∀ w ∈ (vx_atS "FableIndex" 242 z_IOB ["java/lang/RuntimeException", "java/lang/Exception"]).filter goodWord, w ∈ wsL_turnBeast := fun w h => List.mem_cons_of_mem _ (List.mem_append_right _ h)
  refine z_ofWXH (hh := [(0, 17, 20, 13)]) (cc := cL_turnBeast) (nL := 5) (ret := (some .int)) (by decide) rfl (Nat.le_of_ble_eq_true rfl) [2, 3] rfl (lv0 := [(0, .ref aX), (1, .int w), (2, .int x), (3, .ref aO)]) rfl ?_
  intro p e s m args below meth c K htab
  refine z_aload_n K 3 dL_turnBeast_0 rfl ?_
  refine z_iconst (v := 0) K dL_turnBeast_1 (by decide) ?_
  refine z_aload_n K 0 dL_turnBeast_2 rfl ?_
  refine z_iload_n K 1 dL_turnBeast_3 rfl ?_
  refine z_iload_n K 2 dL_turnBeast_4 rfl ?_
  refine z_callVX (ws' := [(aX, .inr (2, [.ref aB, .ref aL, .ref aT, .int se])), (aL, .inr (1, [.ref aL0, .ref aL1, .ref aL2, .ref aL3, .ref aL4, .ref aL5, .int hu])), (aL2, .inl (cI, 6, .inl (upd lb (ix w) (tu (lb (ix w)) x)))), (aO, .inl (cJ, 1, .inr (.inl g)))]) (st' := [.int (z_b (hs (upd lb (ix w) (tu (lb (ix w)) x) (ix w)) x)), .int 0, .ref aO]) (rest := [.int 0, .ref aO]) (C := RX2) (T := TX2) (N := 4) K (m_X2_turnBeast l G D cI cJ aX w x aB aL aT se aL0 aL1 aL2 aL3 aL4 aL5 hu lb ) gL_turnBeast_X2_turnBeast rfl 2 2 (by decide +kernel) rfl dL_turnBeast_5 [0, 1, 2] 0 [2] [0] rfl rfl rfl ⟨by decide, by decide⟩ ⟨by decide, by decide⟩ rfl rfl rfl rfl rfl (Nat.le_of_ble_eq_true rfl) rfl rfl rfl rfl rfl rfl rfl (fun E hE => ?_) (fun hk => absurd hk hcd)
  rcases hE with ⟨h9, rfl⟩ | ⟨h9, rfl⟩
  · refine zx_catch (name := "java/lang/IndexOutOfBoundsException") K htab [] ⟨0, 17, 20, 13⟩ [] rfl (fun _ h => absurd h List.not_mem_nil) (by decide) (by decide) (by decide +kernel) (by decide) (fun q => ?_)
    refine z_astore (lv' := [(4, .ref q), (0, .ref aX), (1, .int w), (2, .int x), (3, .ref aO)]) K dL_turnBeast_20 (by decide) rfl ?_
    refine z_iconst (v := 1) K dL_turnBeast_22 (by decide) ?_
    exact z_iretX K trivial dL_turnBeast_23 (by rw [h9]; rfl) [2, 3] rfl (by decide) (by decide)
  · exact absurd h9 cd1_ne2

set_option maxRecDepth 100000 in
set_option maxHeartbeats 4000000 in
theorem w0_L_tell (l : Launch) (G : Nat → Prop) (D : va_G) (cI cJ : ClassId) (aX : Nat) (w : Int32) (x : Int32) (aO : Nat) (aB : Nat) (aL : Nat) (aT : Nat) (se : Int32) (n : Nat) (aB0 : Nat) (aB1 : Nat) (aB2 : Nat) (aB3 : Nat) (aB4 : Nat) (aB5 : Nat) (fm : Nat → Int32) (fb : Nat → Int32) (aL0 : Nat) (aL1 : Nat) (aL2 : Nat) (aL3 : Nat) (aL4 : Nat) (aL5 : Nat) (hu : Int32) (lm : Nat → Int32) (lb : Nat → Int32) (lt : Nat → Int32) (g : Nat → Int64) (hn : n ≤ 20) (hcd : cdTell w x n lm lb lt fm fb = 0) : z_MX l yL_tell wsL_tell { frames := 8, cells := 6, slots := 36, locals := 125 } G D [(cI, .int), (cJ, .long)] [.ref aX, .int w, .int x, .ref aO] [(aX, .inr (2, [.ref aB, .ref aL, .ref aT, .int se])), (aB, .inr (0, [.int (nI n), .ref aB0, .ref aB1, .ref aB2, .ref aB3, .ref aB4, .ref aB5])), (aB0, .inl (cI, 20, .inl fm)), (aB1, .inl (cI, 20, .inl fb)), (aL, .inr (1, [.ref aL0, .ref aL1, .ref aL2, .ref aL3, .ref aL4, .ref aL5, .int hu])), (aL1, .inl (cI, 6, .inl lm)), (aL2, .inl (cI, 6, .inl lb)), (aL3, .inl (cI, 6, .inl lt)), (aO, .inl (cJ, 1, .inr (.inl g)))] (True) (some (.int 0)) [(aL3, .inl (cI, 6, .inl (upd lt (ix x) (lt (ix x) ||| ((1 : Int32) <<< (w &&& 31)))))), (aO, .inl (cJ, 1, .inr (.inl (vp_updL g 0 (Int32.toInt64 (cntS (upd lt (ix x) (lt (ix x) ||| ((1 : Int32) <<< (w &&& 31)))) ((1 : Int32) <<< (w &&& 31)) 6))))))] (fun _ : String => False) [(aL3, .inl (cI, 6, .inl lt)), (aO, .inl (cJ, 1, .inr (.inl g)))] 6 36 := by
  have iX2 : ∀ w ∈ u_ws RX2 TX2 4, w ∈ wsL_tell := fun w h => List.mem_cons_of_mem _ (List.mem_append_left _ (List.mem_append_left _ (List.mem_append_left _ (List.mem_append_left _ (List.mem_append_right _ h)))))
  have iX1 : ∀ w ∈ u_ws RX1 TX1 7, w ∈ wsL_tell := fun w h => List.mem_cons_of_mem _ (List.mem_append_left _ (List.mem_append_left _ (List.mem_append_left _ (List.mem_append_right _ h))))
  have iX0 : ∀ w ∈ u_ws RX0 TX0 7, w ∈ wsL_tell := fun w h => List.mem_cons_of_mem _ (List.mem_append_left _ (List.mem_append_left _ (List.mem_append_right _ h)))
  have t62 : ∀ w ∈ (vx_atS "FableIndex" 62 z_ISE ["java/lang/RuntimeException", "java/lang/Exception"]).filter goodWord, w ∈ wsL_tell := fun w h => List.mem_cons_of_mem _ (List.mem_append_left _ (List.mem_append_right _ h))
  have t242 : ∀ w ∈ (vx_atS "FableIndex" 242 z_IOB ["java/lang/RuntimeException", "java/lang/Exception"]).filter goodWord, w ∈ wsL_tell := fun w h => List.mem_cons_of_mem _ (List.mem_append_right _ h)
  refine z_ofWXH (hh := [(0, 10, 13, 13), (0, 10, 17, 15)]) (cc := cL_tell) (nL := 5) (ret := (some .int)) (by decide) rfl (Nat.le_of_ble_eq_true rfl) [7, 8] rfl (lv0 := [(0, .ref aX), (1, .int w), (2, .int x), (3, .ref aO)]) rfl ?_
  intro p e s m args below meth c K htab
  refine z_aload_n K 3 dL_tell_0 rfl ?_
  refine z_iconst (v := 0) K dL_tell_1 (by decide) ?_
  refine z_aload_n K 0 dL_tell_2 rfl ?_
  refine z_iload_n K 1 dL_tell_3 rfl ?_
  refine z_iload_n K 2 dL_tell_4 rfl ?_
  refine z_callVX (ws' := [(aX, .inr (2, [.ref aB, .ref aL, .ref aT, .int se])), (aB, .inr (0, [.int (nI n), .ref aB0, .ref aB1, .ref aB2, .ref aB3, .ref aB4, .ref aB5])), (aB0, .inl (cI, 20, .inl fm)), (aB1, .inl (cI, 20, .inl fb)), (aL, .inr (1, [.ref aL0, .ref aL1, .ref aL2, .ref aL3, .ref aL4, .ref aL5, .int hu])), (aL1, .inl (cI, 6, .inl lm)), (aL2, .inl (cI, 6, .inl lb)), (aL3, .inl (cI, 6, .inl (upd lt (ix x) (lt (ix x) ||| ((1 : Int32) <<< (w &&& 31)))))), (aO, .inl (cJ, 1, .inr (.inl g)))]) (st' := [.int (cntS (upd lt (ix x) (lt (ix x) ||| ((1 : Int32) <<< (w &&& 31)))) ((1 : Int32) <<< (w &&& 31)) 6), .int 0, .ref aO]) (rest := [.int 0, .ref aO]) (C := RX2) (T := TX2) (N := 4) K (m_X2_tell l G D cI cJ aX w x aB aL aT se n aB0 aB1 aB2 aB3 aB4 aB5 fm fb aL0 aL1 aL2 aL3 aL4 aL5 hu lm lb lt (by omega)) gL_tell_X2_tell rfl 2 2 (by decide +kernel) rfl dL_tell_5 [0, 1, 2, 3, 4, 5, 6, 7] 0 [7] [0] rfl rfl rfl ⟨by decide, by decide⟩ ⟨by decide, by decide⟩ rfl rfl rfl rfl rfl (Nat.le_of_ble_eq_true rfl) rfl rfl rfl rfl rfl rfl rfl (fun E hE => zx_no hcd hE) (fun _ => ?_)
  refine z_i2l K dL_tell_8 ?_
  refine z_lastN K 8 1 0 (by omega) (by omega) rfl rfl dL_tell_9 (z_memA 1 rfl) (ws' := [(aX, .inr (2, [.ref aB, .ref aL, .ref aT, .int se])), (aB, .inr (0, [.int (nI n), .ref aB0, .ref aB1, .ref aB2, .ref aB3, .ref aB4, .ref aB5])), (aB0, .inl (cI, 20, .inl fm)), (aB1, .inl (cI, 20, .inl fb)), (aL, .inr (1, [.ref aL0, .ref aL1, .ref aL2, .ref aL3, .ref aL4, .ref aL5, .int hu])), (aL1, .inl (cI, 6, .inl lm)), (aL2, .inl (cI, 6, .inl lb)), (aL3, .inl (cI, 6, .inl (upd lt (ix x) (lt (ix x) ||| ((1 : Int32) <<< (w &&& 31)))))), (aO, .inl (cJ, 1, .inr (.inl (vp_updL g 0 (Int32.toInt64 (cntS (upd lt (ix x) (lt (ix x) ||| ((1 : Int32) <<< (w &&& 31)))) ((1 : Int32) <<< (w &&& 31)) 6))))))]) rfl ?_
  refine z_goto K 21 dL_tell_10 (by decide) ?_
  refine z_iconst (v := 0) K dL_tell_21 (by decide) ?_
  exact z_iretX K trivial dL_tell_22 (rfl) [7, 8] rfl (by decide) (by decide)

set_option maxRecDepth 100000 in
set_option maxHeartbeats 4000000 in
theorem w1_L_tell (l : Launch) (G : Nat → Prop) (D : va_G) (cI cJ : ClassId) (aX : Nat) (w : Int32) (x : Int32) (aO : Nat) (aB : Nat) (aL : Nat) (aT : Nat) (se : Int32) (n : Nat) (aB0 : Nat) (aB1 : Nat) (aB2 : Nat) (aB3 : Nat) (aB4 : Nat) (aB5 : Nat) (fm : Nat → Int32) (fb : Nat → Int32) (aL0 : Nat) (aL1 : Nat) (aL2 : Nat) (aL3 : Nat) (aL4 : Nat) (aL5 : Nat) (hu : Int32) (lm : Nat → Int32) (lb : Nat → Int32) (lt : Nat → Int32) (g : Nat → Int64) (hn : n ≤ 20) (hcd : ¬ cdTell w x n lm lb lt fm fb = 0) : z_MX l yL_tell wsL_tell { frames := 8, cells := 6, slots := 36, locals := 125 } G D [(cI, .int), (cJ, .long)] [.ref aX, .int w, .int x, .ref aO] [(aX, .inr (2, [.ref aB, .ref aL, .ref aT, .int se])), (aB, .inr (0, [.int (nI n), .ref aB0, .ref aB1, .ref aB2, .ref aB3, .ref aB4, .ref aB5])), (aB0, .inl (cI, 20, .inl fm)), (aB1, .inl (cI, 20, .inl fb)), (aL, .inr (1, [.ref aL0, .ref aL1, .ref aL2, .ref aL3, .ref aL4, .ref aL5, .int hu])), (aL1, .inl (cI, 6, .inl lm)), (aL2, .inl (cI, 6, .inl lb)), (aL3, .inl (cI, 6, .inl lt)), (aO, .inl (cJ, 1, .inr (.inl g)))] (True) (some (.int (nI (cdTell w x n lm lb lt fm fb)))) [(aL3, .inl (cI, 6, .inl lt)), (aO, .inl (cJ, 1, .inr (.inl g)))] (fun _ : String => False) [(aL3, .inl (cI, 6, .inl lt)), (aO, .inl (cJ, 1, .inr (.inl g)))] 6 36 := by
  have iX2 : ∀ w ∈ u_ws RX2 TX2 4, w ∈ wsL_tell := fun w h => List.mem_cons_of_mem _ (List.mem_append_left _ (List.mem_append_left _ (List.mem_append_left _ (List.mem_append_left _ (List.mem_append_right _ h)))))
  have iX1 : ∀ w ∈ u_ws RX1 TX1 7, w ∈ wsL_tell := fun w h => List.mem_cons_of_mem _ (List.mem_append_left _ (List.mem_append_left _ (List.mem_append_left _ (List.mem_append_right _ h))))
  have iX0 : ∀ w ∈ u_ws RX0 TX0 7, w ∈ wsL_tell := fun w h => List.mem_cons_of_mem _ (List.mem_append_left _ (List.mem_append_left _ (List.mem_append_right _ h)))
  have t62 : ∀ w ∈ (vx_atS "FableIndex" 62 z_ISE ["java/lang/RuntimeException", "java/lang/Exception"]).filter goodWord, w ∈ wsL_tell := fun w h => List.mem_cons_of_mem _ (List.mem_append_left _ (List.mem_append_right _ h))
  have t242 : ∀ w ∈ (vx_atS "FableIndex" 242 z_IOB ["java/lang/RuntimeException", "java/lang/Exception"]).filter goodWord, w ∈ wsL_tell := fun w h => List.mem_cons_of_mem _ (List.mem_append_right _ h)
  refine z_ofWXH (hh := [(0, 10, 13, 13), (0, 10, 17, 15)]) (cc := cL_tell) (nL := 5) (ret := (some .int)) (by decide) rfl (Nat.le_of_ble_eq_true rfl) [7, 8] rfl (lv0 := [(0, .ref aX), (1, .int w), (2, .int x), (3, .ref aO)]) rfl ?_
  intro p e s m args below meth c K htab
  refine z_aload_n K 3 dL_tell_0 rfl ?_
  refine z_iconst (v := 0) K dL_tell_1 (by decide) ?_
  refine z_aload_n K 0 dL_tell_2 rfl ?_
  refine z_iload_n K 1 dL_tell_3 rfl ?_
  refine z_iload_n K 2 dL_tell_4 rfl ?_
  refine z_callVX (ws' := [(aX, .inr (2, [.ref aB, .ref aL, .ref aT, .int se])), (aB, .inr (0, [.int (nI n), .ref aB0, .ref aB1, .ref aB2, .ref aB3, .ref aB4, .ref aB5])), (aB0, .inl (cI, 20, .inl fm)), (aB1, .inl (cI, 20, .inl fb)), (aL, .inr (1, [.ref aL0, .ref aL1, .ref aL2, .ref aL3, .ref aL4, .ref aL5, .int hu])), (aL1, .inl (cI, 6, .inl lm)), (aL2, .inl (cI, 6, .inl lb)), (aL3, .inl (cI, 6, .inl (upd lt (ix x) (lt (ix x) ||| ((1 : Int32) <<< (w &&& 31)))))), (aO, .inl (cJ, 1, .inr (.inl g)))]) (st' := [.int (cntS (upd lt (ix x) (lt (ix x) ||| ((1 : Int32) <<< (w &&& 31)))) ((1 : Int32) <<< (w &&& 31)) 6), .int 0, .ref aO]) (rest := [.int 0, .ref aO]) (C := RX2) (T := TX2) (N := 4) K (m_X2_tell l G D cI cJ aX w x aB aL aT se n aB0 aB1 aB2 aB3 aB4 aB5 fm fb aL0 aL1 aL2 aL3 aL4 aL5 hu lm lb lt (by omega)) gL_tell_X2_tell rfl 2 2 (by decide +kernel) rfl dL_tell_5 [0, 1, 2, 3, 4, 5, 6, 7] 0 [7] [0] rfl rfl rfl ⟨by decide, by decide⟩ ⟨by decide, by decide⟩ rfl rfl rfl rfl rfl (Nat.le_of_ble_eq_true rfl) rfl rfl rfl rfl rfl rfl rfl (fun E hE => ?_) (fun hk => absurd hk hcd)
  rcases hE with ⟨h9, rfl⟩ | ⟨h9, rfl⟩
  · refine zx_catch (name := "java/lang/IndexOutOfBoundsException") K htab [] ⟨0, 10, 13, 13⟩ [⟨0, 10, 17, 15⟩] rfl (fun _ h => absurd h List.not_mem_nil) (by decide) (by decide) (by decide +kernel) (by decide) (fun q => ?_)
    refine z_astore (lv' := [(4, .ref q), (0, .ref aX), (1, .int w), (2, .int x), (3, .ref aO)]) K dL_tell_13 (by decide) rfl ?_
    refine z_iconst (v := 1) K dL_tell_15 (by decide) ?_
    exact z_iretX K trivial dL_tell_16 (by rw [h9]; rfl) [7, 8] rfl (by decide) (by decide)
  · refine zx_catch (name := "java/lang/IllegalStateException") K htab [⟨0, 10, 13, 13⟩] ⟨0, 10, 17, 15⟩ [] rfl (fun z hz => by rw [List.mem_singleton.mp hz]; exact ⟨by decide, "java/lang/IndexOutOfBoundsException", by decide +kernel, by decide⟩) (by decide) (by decide) (by decide +kernel) (by decide) (fun q => ?_)
    refine z_astore (lv' := [(4, .ref q), (0, .ref aX), (1, .int w), (2, .int x), (3, .ref aO)]) K dL_tell_17 (by decide) rfl ?_
    refine z_iconst (v := 2) K dL_tell_19 (by decide) ?_
    exact z_iretX K trivial dL_tell_20 (by rw [h9]; rfl) [7, 8] rfl (by decide) (by decide)

set_option maxRecDepth 100000 in
set_option maxHeartbeats 4000000 in
theorem w0_L_forget (l : Launch) (G : Nat → Prop) (D : va_G) (cI cJ : ClassId) (aX : Nat) (w : Int32) (x : Int32) (aO : Nat) (aB : Nat) (aL : Nat) (aT : Nat) (se : Int32) (n : Nat) (aB0 : Nat) (aB1 : Nat) (aB2 : Nat) (aB3 : Nat) (aB4 : Nat) (aB5 : Nat) (aL0 : Nat) (aL1 : Nat) (aL2 : Nat) (aL3 : Nat) (aL4 : Nat) (aL5 : Nat) (hu : Int32) (lt : Nat → Int32) (g : Nat → Int64) (hn : n ≤ 20) (hcd : cdForg w x n lt = 0) : z_MX l yL_forget wsL_forget { frames := 8, cells := 6, slots := 36, locals := 125 } G D [(cI, .int), (cJ, .long)] [.ref aX, .int w, .int x, .ref aO] [(aX, .inr (2, [.ref aB, .ref aL, .ref aT, .int se])), (aB, .inr (0, [.int (nI n), .ref aB0, .ref aB1, .ref aB2, .ref aB3, .ref aB4, .ref aB5])), (aL, .inr (1, [.ref aL0, .ref aL1, .ref aL2, .ref aL3, .ref aL4, .ref aL5, .int hu])), (aL3, .inl (cI, 6, .inl lt)), (aO, .inl (cJ, 1, .inr (.inl g)))] (True) (some (.int 0)) [(aL3, .inl (cI, 6, .inl (upd lt (ix x) (tu (lt (ix x)) w)))), (aO, .inl (cJ, 1, .inr (.inl (vp_updL g 0 (Int32.toInt64 (cntS (upd lt (ix x) (tu (lt (ix x)) w)) ((1 : Int32) <<< (w &&& 31)) 6))))))] (fun _ : String => False) [(aL3, .inl (cI, 6, .inl lt)), (aO, .inl (cJ, 1, .inr (.inl g)))] 6 36 := by
  have iX2 : ∀ w ∈ u_ws RX2 TX2 4, w ∈ wsL_forget := fun w h => List.mem_cons_of_mem _ (List.mem_append_left _ (List.mem_append_left _ (List.mem_append_left _ (List.mem_append_left _ (List.mem_append_right _ h)))))
  have iX1 : ∀ w ∈ u_ws RX1 TX1 7, w ∈ wsL_forget := fun w h => List.mem_cons_of_mem _ (List.mem_append_left _ (List.mem_append_left _ (List.mem_append_left _ (List.mem_append_right _ h))))
  have iX0 : ∀ w ∈ u_ws RX0 TX0 7, w ∈ wsL_forget := fun w h => List.mem_cons_of_mem _ (List.mem_append_left _ (List.mem_append_left _ (List.mem_append_right _ h)))
  have t62 : ∀ w ∈ (vx_atS "FableIndex" 62 z_ISE ["java/lang/RuntimeException", "java/lang/Exception"]).filter goodWord, w ∈ wsL_forget := fun w h => List.mem_cons_of_mem _ (List.mem_append_left _ (List.mem_append_right _ h))
  have t242 : ∀ w ∈ (vx_atS "FableIndex" 242 z_IOB ["java/lang/RuntimeException", "java/lang/Exception"]).filter goodWord, w ∈ wsL_forget := fun w h => List.mem_cons_of_mem _ (List.mem_append_right _ h)
  refine z_ofWXH (hh := [(0, 10, 13, 13), (0, 10, 17, 15)]) (cc := cL_forget) (nL := 5) (ret := (some .int)) (by decide) rfl (Nat.le_of_ble_eq_true rfl) [3, 4] rfl (lv0 := [(0, .ref aX), (1, .int w), (2, .int x), (3, .ref aO)]) rfl ?_
  intro p e s m args below meth c K htab
  refine z_aload_n K 3 dL_forget_0 rfl ?_
  refine z_iconst (v := 0) K dL_forget_1 (by decide) ?_
  refine z_aload_n K 0 dL_forget_2 rfl ?_
  refine z_iload_n K 1 dL_forget_3 rfl ?_
  refine z_iload_n K 2 dL_forget_4 rfl ?_
  refine z_callVX (ws' := [(aX, .inr (2, [.ref aB, .ref aL, .ref aT, .int se])), (aB, .inr (0, [.int (nI n), .ref aB0, .ref aB1, .ref aB2, .ref aB3, .ref aB4, .ref aB5])), (aL, .inr (1, [.ref aL0, .ref aL1, .ref aL2, .ref aL3, .ref aL4, .ref aL5, .int hu])), (aL3, .inl (cI, 6, .inl (upd lt (ix x) (tu (lt (ix x)) w)))), (aO, .inl (cJ, 1, .inr (.inl g)))]) (st' := [.int (cntS (upd lt (ix x) (tu (lt (ix x)) w)) ((1 : Int32) <<< (w &&& 31)) 6), .int 0, .ref aO]) (rest := [.int 0, .ref aO]) (C := RX2) (T := TX2) (N := 4) K (m_X2_forget l G D cI cJ aX w x aB aL aT se n aB0 aB1 aB2 aB3 aB4 aB5 aL0 aL1 aL2 aL3 aL4 aL5 hu lt (by omega)) gL_forget_X2_forget rfl 2 2 (by decide +kernel) rfl dL_forget_5 [0, 1, 2, 3] 0 [3] [0] rfl rfl rfl ⟨by decide, by decide⟩ ⟨by decide, by decide⟩ rfl rfl rfl rfl rfl (Nat.le_of_ble_eq_true rfl) rfl rfl rfl rfl rfl rfl rfl (fun E hE => zx_no hcd hE) (fun _ => ?_)
  refine z_i2l K dL_forget_8 ?_
  refine z_lastN K 4 1 0 (by omega) (by omega) rfl rfl dL_forget_9 (z_memA 1 rfl) (ws' := [(aX, .inr (2, [.ref aB, .ref aL, .ref aT, .int se])), (aB, .inr (0, [.int (nI n), .ref aB0, .ref aB1, .ref aB2, .ref aB3, .ref aB4, .ref aB5])), (aL, .inr (1, [.ref aL0, .ref aL1, .ref aL2, .ref aL3, .ref aL4, .ref aL5, .int hu])), (aL3, .inl (cI, 6, .inl (upd lt (ix x) (tu (lt (ix x)) w)))), (aO, .inl (cJ, 1, .inr (.inl (vp_updL g 0 (Int32.toInt64 (cntS (upd lt (ix x) (tu (lt (ix x)) w)) ((1 : Int32) <<< (w &&& 31)) 6))))))]) rfl ?_
  refine z_goto K 21 dL_forget_10 (by decide) ?_
  refine z_iconst (v := 0) K dL_forget_21 (by decide) ?_
  exact z_iretX K trivial dL_forget_22 (rfl) [3, 4] rfl (by decide) (by decide)

set_option maxRecDepth 100000 in
set_option maxHeartbeats 4000000 in
theorem w1_L_forget (l : Launch) (G : Nat → Prop) (D : va_G) (cI cJ : ClassId) (aX : Nat) (w : Int32) (x : Int32) (aO : Nat) (aB : Nat) (aL : Nat) (aT : Nat) (se : Int32) (n : Nat) (aB0 : Nat) (aB1 : Nat) (aB2 : Nat) (aB3 : Nat) (aB4 : Nat) (aB5 : Nat) (aL0 : Nat) (aL1 : Nat) (aL2 : Nat) (aL3 : Nat) (aL4 : Nat) (aL5 : Nat) (hu : Int32) (lt : Nat → Int32) (g : Nat → Int64) (hn : n ≤ 20) (hcd : ¬ cdForg w x n lt = 0) : z_MX l yL_forget wsL_forget { frames := 8, cells := 6, slots := 36, locals := 125 } G D [(cI, .int), (cJ, .long)] [.ref aX, .int w, .int x, .ref aO] [(aX, .inr (2, [.ref aB, .ref aL, .ref aT, .int se])), (aB, .inr (0, [.int (nI n), .ref aB0, .ref aB1, .ref aB2, .ref aB3, .ref aB4, .ref aB5])), (aL, .inr (1, [.ref aL0, .ref aL1, .ref aL2, .ref aL3, .ref aL4, .ref aL5, .int hu])), (aL3, .inl (cI, 6, .inl lt)), (aO, .inl (cJ, 1, .inr (.inl g)))] (True) (some (.int (nI (cdForg w x n lt)))) [(aL3, .inl (cI, 6, .inl lt)), (aO, .inl (cJ, 1, .inr (.inl g)))] (fun _ : String => False) [(aL3, .inl (cI, 6, .inl lt)), (aO, .inl (cJ, 1, .inr (.inl g)))] 6 36 := by
  have iX2 : ∀ w ∈ u_ws RX2 TX2 4, w ∈ wsL_forget := fun w h => List.mem_cons_of_mem _ (List.mem_append_left _ (List.mem_append_left _ (List.mem_append_left _ (List.mem_append_left _ (List.mem_append_right _ h)))))
  have iX1 : ∀ w ∈ u_ws RX1 TX1 7, w ∈ wsL_forget := fun w h => List.mem_cons_of_mem _ (List.mem_append_left _ (List.mem_append_left _ (List.mem_append_left _ (List.mem_append_right _ h))))
  have iX0 : ∀ w ∈ u_ws RX0 TX0 7, w ∈ wsL_forget := fun w h => List.mem_cons_of_mem _ (List.mem_append_left _ (List.mem_append_left _ (List.mem_append_right _ h)))
  have t62 : ∀ w ∈ (vx_atS "FableIndex" 62 z_ISE ["java/lang/RuntimeException", "java/lang/Exception"]).filter goodWord, w ∈ wsL_forget := fun w h => List.mem_cons_of_mem _ (List.mem_append_left _ (List.mem_append_right _ h))
  have t242 : ∀ w ∈ (vx_atS "FableIndex" 242 z_IOB ["java/lang/RuntimeException", "java/lang/Exception"]).filter goodWord, w ∈ wsL_forget := fun w h => List.mem_cons_of_mem _ (List.mem_append_right _ h)
  refine z_ofWXH (hh := [(0, 10, 13, 13), (0, 10, 17, 15)]) (cc := cL_forget) (nL := 5) (ret := (some .int)) (by decide) rfl (Nat.le_of_ble_eq_true rfl) [3, 4] rfl (lv0 := [(0, .ref aX), (1, .int w), (2, .int x), (3, .ref aO)]) rfl ?_
  intro p e s m args below meth c K htab
  refine z_aload_n K 3 dL_forget_0 rfl ?_
  refine z_iconst (v := 0) K dL_forget_1 (by decide) ?_
  refine z_aload_n K 0 dL_forget_2 rfl ?_
  refine z_iload_n K 1 dL_forget_3 rfl ?_
  refine z_iload_n K 2 dL_forget_4 rfl ?_
  refine z_callVX (ws' := [(aX, .inr (2, [.ref aB, .ref aL, .ref aT, .int se])), (aB, .inr (0, [.int (nI n), .ref aB0, .ref aB1, .ref aB2, .ref aB3, .ref aB4, .ref aB5])), (aL, .inr (1, [.ref aL0, .ref aL1, .ref aL2, .ref aL3, .ref aL4, .ref aL5, .int hu])), (aL3, .inl (cI, 6, .inl (upd lt (ix x) (tu (lt (ix x)) w)))), (aO, .inl (cJ, 1, .inr (.inl g)))]) (st' := [.int (cntS (upd lt (ix x) (tu (lt (ix x)) w)) ((1 : Int32) <<< (w &&& 31)) 6), .int 0, .ref aO]) (rest := [.int 0, .ref aO]) (C := RX2) (T := TX2) (N := 4) K (m_X2_forget l G D cI cJ aX w x aB aL aT se n aB0 aB1 aB2 aB3 aB4 aB5 aL0 aL1 aL2 aL3 aL4 aL5 hu lt (by omega)) gL_forget_X2_forget rfl 2 2 (by decide +kernel) rfl dL_forget_5 [0, 1, 2, 3] 0 [3] [0] rfl rfl rfl ⟨by decide, by decide⟩ ⟨by decide, by decide⟩ rfl rfl rfl rfl rfl (Nat.le_of_ble_eq_true rfl) rfl rfl rfl rfl rfl rfl rfl (fun E hE => ?_) (fun hk => absurd hk hcd)
  rcases hE with ⟨h9, rfl⟩ | ⟨h9, rfl⟩
  · refine zx_catch (name := "java/lang/IndexOutOfBoundsException") K htab [] ⟨0, 10, 13, 13⟩ [⟨0, 10, 17, 15⟩] rfl (fun _ h => absurd h List.not_mem_nil) (by decide) (by decide) (by decide +kernel) (by decide) (fun q => ?_)
    refine z_astore (lv' := [(4, .ref q), (0, .ref aX), (1, .int w), (2, .int x), (3, .ref aO)]) K dL_forget_13 (by decide) rfl ?_
    refine z_iconst (v := 1) K dL_forget_15 (by decide) ?_
    exact z_iretX K trivial dL_forget_16 (by rw [h9]; rfl) [3, 4] rfl (by decide) (by decide)
  · refine zx_catch (name := "java/lang/IllegalStateException") K htab [⟨0, 10, 13, 13⟩] ⟨0, 10, 17, 15⟩ [] rfl (fun z hz => by rw [List.mem_singleton.mp hz]; exact ⟨by decide, "java/lang/IndexOutOfBoundsException", by decide +kernel, by decide⟩) (by decide) (by decide) (by decide +kernel) (by decide) (fun q => ?_)
    refine z_astore (lv' := [(4, .ref q), (0, .ref aX), (1, .int w), (2, .int x), (3, .ref aO)]) K dL_forget_17 (by decide) rfl ?_
    refine z_iconst (v := 2) K dL_forget_19 (by decide) ?_
    exact z_iretX K trivial dL_forget_20 (by rw [h9]; rfl) [3, 4] rfl (by decide) (by decide)

set_option maxRecDepth 100000 in
set_option maxHeartbeats 4000000 in
theorem w0_L_passSeasons (l : Launch) (G : Nat → Prop) (D : va_G) (cI cJ : ClassId) (aX : Nat) (w : Int32) (aO : Nat) (aB : Nat) (aL : Nat) (aT : Nat) (se : Int32) (n : Nat) (aB0 : Nat) (aB1 : Nat) (aB2 : Nat) (aB3 : Nat) (aB4 : Nat) (aB5 : Nat) (fm : Nat → Int32) (fb : Nat → Int32) (fv : Nat → Int32) (aL0 : Nat) (aL1 : Nat) (aL2 : Nat) (aL3 : Nat) (aL4 : Nat) (aL5 : Nat) (hu : Int32) (lw : Nat → Int32) (lm : Nat → Int32) (lb : Nat → Int32) (lt : Nat → Int32) (la : Nat → Int32) (lk : Nat → Int32) (g : Nat → Int64) (hn : n ≤ 20) (hcd : cd1 (sea w 40) = 0) : z_MX l yL_passSeasons wsL_passSeasons { frames := 8, cells := 6, slots := 36, locals := 124 } G D [(cI, .int), (cJ, .long)] [.ref aX, .int w, .ref aO] [(aX, .inr (2, [.ref aB, .ref aL, .ref aT, .int se])), (aB, .inr (0, [.int (nI n), .ref aB0, .ref aB1, .ref aB2, .ref aB3, .ref aB4, .ref aB5])), (aB0, .inl (cI, 20, .inl fm)), (aB1, .inl (cI, 20, .inl fb)), (aB4, .inl (cI, 20, .inl fv)), (aL, .inr (1, [.ref aL0, .ref aL1, .ref aL2, .ref aL3, .ref aL4, .ref aL5, .int hu])), (aL0, .inl (cI, 6, .inl lw)), (aL1, .inl (cI, 6, .inl lm)), (aL2, .inl (cI, 6, .inl lb)), (aL3, .inl (cI, 6, .inl lt)), (aL4, .inl (cI, 6, .inl la)), (aL5, .inl (cI, 6, .inl lk)), (aO, .inl (cJ, 1, .inr (.inl g)))] (True) (some (.int 0)) [(aX, .inr (2, [.ref aB, .ref aL, .ref aT, .int (se + w)])), (aL, .inr (1, [.ref aL0, .ref aL1, .ref aL2, .ref aL3, .ref aL4, .ref aL5, .int ((livS lw lm (alS lm lb fm fb n la 6) fm fv n lt lk hu (ix w)).2.2.1)])), (aL3, .inl (cI, 6, .inl ((livS lw lm (alS lm lb fm fb n la 6) fm fv n lt lk hu (ix w)).1))), (aL4, .inl (cI, 6, .inl (alS lm lb fm fb n la 6))), (aL5, .inl (cI, 6, .inl ((livS lw lm (alS lm lb fm fb n la 6) fm fv n lt lk hu (ix w)).2.1))), (aO, .inl (cJ, 1, .inr (.inl (vp_updL g 0 (Int32.toInt64 (cntS (livS lw lm (alS lm lb fm fb n la 6) fm fv n lt lk hu (ix w)).1 (allS n) 6))))))] (fun _ : String => False) [(aX, .inr (2, [.ref aB, .ref aL, .ref aT, .int se])), (aL, .inr (1, [.ref aL0, .ref aL1, .ref aL2, .ref aL3, .ref aL4, .ref aL5, .int hu])), (aL3, .inl (cI, 6, .inl lt)), (aL4, .inl (cI, 6, .inl la)), (aL5, .inl (cI, 6, .inl lk)), (aO, .inl (cJ, 1, .inr (.inl g)))] 6 36 := by
  have iX2 : ∀ w ∈ u_ws RX2 TX2 4, w ∈ wsL_passSeasons := fun w h => List.mem_cons_of_mem _ (List.mem_append_left _ (List.mem_append_left _ (List.mem_append_left _ (List.mem_append_right _ h))))
  have iX1 : ∀ w ∈ u_ws RX1 TX1 7, w ∈ wsL_passSeasons := fun w h => List.mem_cons_of_mem _ (List.mem_append_left _ (List.mem_append_left _ (List.mem_append_right _ h)))
  have iX0 : ∀ w ∈ u_ws RX0 TX0 7, w ∈ wsL_passSeasons := fun w h => List.mem_cons_of_mem _ (List.mem_append_left _ (List.mem_append_right _ h))
  have t89 : ∀ w ∈ (vx_atS "FableIndex" 89 z_IAE ["java/lang/RuntimeException", "java/lang/Exception"]).filter goodWord, w ∈ wsL_passSeasons := fun w h => List.mem_cons_of_mem _ (List.mem_append_right _ h)
  refine z_ofWXH (hh := [(0, 9, 12, 29)]) (cc := cL_passSeasons) (nL := 4) (ret := (some .int)) (by decide) rfl (Nat.le_of_ble_eq_true rfl) [0, 5, 9, 10, 11, 12] rfl (lv0 := [(0, .ref aX), (1, .int w), (2, .ref aO)]) rfl ?_
  intro p e s m args below meth c K htab
  refine z_aload_n K 2 dL_passSeasons_0 rfl ?_
  refine z_iconst (v := 0) K dL_passSeasons_1 (by decide) ?_
  refine z_aload_n K 0 dL_passSeasons_2 rfl ?_
  refine z_iload_n K 1 dL_passSeasons_3 rfl ?_
  refine z_callVX (ws' := [(aX, .inr (2, [.ref aB, .ref aL, .ref aT, .int (se + w)])), (aB, .inr (0, [.int (nI n), .ref aB0, .ref aB1, .ref aB2, .ref aB3, .ref aB4, .ref aB5])), (aB0, .inl (cI, 20, .inl fm)), (aB1, .inl (cI, 20, .inl fb)), (aB4, .inl (cI, 20, .inl fv)), (aL, .inr (1, [.ref aL0, .ref aL1, .ref aL2, .ref aL3, .ref aL4, .ref aL5, .int ((livS lw lm (alS lm lb fm fb n la 6) fm fv n lt lk hu (ix w)).2.2.1)])), (aL0, .inl (cI, 6, .inl lw)), (aL1, .inl (cI, 6, .inl lm)), (aL2, .inl (cI, 6, .inl lb)), (aL3, .inl (cI, 6, .inl ((livS lw lm (alS lm lb fm fb n la 6) fm fv n lt lk hu (ix w)).1))), (aL4, .inl (cI, 6, .inl (alS lm lb fm fb n la 6))), (aL5, .inl (cI, 6, .inl ((livS lw lm (alS lm lb fm fb n la 6) fm fv n lt lk hu (ix w)).2.1))), (aO, .inl (cJ, 1, .inr (.inl g)))]) (st' := [.int (cntS (livS lw lm (alS lm lb fm fb n la 6) fm fv n lt lk hu (ix w)).1 (allS n) 6), .int 0, .ref aO]) (rest := [.int 0, .ref aO]) (C := RX2) (T := TX2) (N := 4) K (m_X2_passSeasons l G D cI cJ aX w aB aL aT se n aB0 aB1 aB2 aB3 aB4 aB5 fm fb fv aL0 aL1 aL2 aL3 aL4 aL5 hu lw lm lb lt la lk (by omega)) gL_passSeasons_X2_passSeasons rfl 1 2 (by decide +kernel) rfl dL_passSeasons_4 [0, 1, 2, 3, 4, 5, 6, 7, 8, 9, 10, 11] 0 [0, 5, 9, 10, 11] [0, 1, 2, 3, 4] rfl rfl rfl ⟨by decide, by decide⟩ ⟨by decide, by decide⟩ rfl rfl rfl rfl rfl (Nat.le_of_ble_eq_true rfl) rfl rfl rfl rfl rfl rfl rfl (fun E hE => zx_no hcd hE) (fun _ => ?_)
  refine z_i2l K dL_passSeasons_7 ?_
  refine z_lastN K 12 1 0 (by omega) (by omega) rfl rfl dL_passSeasons_8 (z_memA 5 rfl) (ws' := [(aX, .inr (2, [.ref aB, .ref aL, .ref aT, .int (se + w)])), (aB, .inr (0, [.int (nI n), .ref aB0, .ref aB1, .ref aB2, .ref aB3, .ref aB4, .ref aB5])), (aB0, .inl (cI, 20, .inl fm)), (aB1, .inl (cI, 20, .inl fb)), (aB4, .inl (cI, 20, .inl fv)), (aL, .inr (1, [.ref aL0, .ref aL1, .ref aL2, .ref aL3, .ref aL4, .ref aL5, .int ((livS lw lm (alS lm lb fm fb n la 6) fm fv n lt lk hu (ix w)).2.2.1)])), (aL0, .inl (cI, 6, .inl lw)), (aL1, .inl (cI, 6, .inl lm)), (aL2, .inl (cI, 6, .inl lb)), (aL3, .inl (cI, 6, .inl ((livS lw lm (alS lm lb fm fb n la 6) fm fv n lt lk hu (ix w)).1))), (aL4, .inl (cI, 6, .inl (alS lm lb fm fb n la 6))), (aL5, .inl (cI, 6, .inl ((livS lw lm (alS lm lb fm fb n la 6) fm fv n lt lk hu (ix w)).2.1))), (aO, .inl (cJ, 1, .inr (.inl (vp_updL g 0 (Int32.toInt64 (cntS (livS lw lm (alS lm lb fm fb n la 6) fm fv n lt lk hu (ix w)).1 (allS n) 6))))))]) rfl ?_
  refine z_goto K 15 dL_passSeasons_9 (by decide) ?_
  refine z_iconst (v := 0) K dL_passSeasons_15 (by decide) ?_
  exact z_iretX K trivial dL_passSeasons_16 (rfl) [0, 5, 9, 10, 11, 12] rfl (by decide) (by decide)

set_option maxRecDepth 100000 in
set_option maxHeartbeats 4000000 in
theorem w1_L_passSeasons (l : Launch) (G : Nat → Prop) (D : va_G) (cI cJ : ClassId) (aX : Nat) (w : Int32) (aO : Nat) (aB : Nat) (aL : Nat) (aT : Nat) (se : Int32) (n : Nat) (aB0 : Nat) (aB1 : Nat) (aB2 : Nat) (aB3 : Nat) (aB4 : Nat) (aB5 : Nat) (fm : Nat → Int32) (fb : Nat → Int32) (fv : Nat → Int32) (aL0 : Nat) (aL1 : Nat) (aL2 : Nat) (aL3 : Nat) (aL4 : Nat) (aL5 : Nat) (hu : Int32) (lw : Nat → Int32) (lm : Nat → Int32) (lb : Nat → Int32) (lt : Nat → Int32) (la : Nat → Int32) (lk : Nat → Int32) (g : Nat → Int64) (hn : n ≤ 20) (hcd : ¬ cd1 (sea w 40) = 0) : z_MX l yL_passSeasons wsL_passSeasons { frames := 8, cells := 6, slots := 36, locals := 124 } G D [(cI, .int), (cJ, .long)] [.ref aX, .int w, .ref aO] [(aX, .inr (2, [.ref aB, .ref aL, .ref aT, .int se])), (aB, .inr (0, [.int (nI n), .ref aB0, .ref aB1, .ref aB2, .ref aB3, .ref aB4, .ref aB5])), (aB0, .inl (cI, 20, .inl fm)), (aB1, .inl (cI, 20, .inl fb)), (aB4, .inl (cI, 20, .inl fv)), (aL, .inr (1, [.ref aL0, .ref aL1, .ref aL2, .ref aL3, .ref aL4, .ref aL5, .int hu])), (aL0, .inl (cI, 6, .inl lw)), (aL1, .inl (cI, 6, .inl lm)), (aL2, .inl (cI, 6, .inl lb)), (aL3, .inl (cI, 6, .inl lt)), (aL4, .inl (cI, 6, .inl la)), (aL5, .inl (cI, 6, .inl lk)), (aO, .inl (cJ, 1, .inr (.inl g)))] (True) (some (.int (nI (cd1 (sea w 40))))) [(aX, .inr (2, [.ref aB, .ref aL, .ref aT, .int se])), (aL, .inr (1, [.ref aL0, .ref aL1, .ref aL2, .ref aL3, .ref aL4, .ref aL5, .int hu])), (aL3, .inl (cI, 6, .inl lt)), (aL4, .inl (cI, 6, .inl la)), (aL5, .inl (cI, 6, .inl lk)), (aO, .inl (cJ, 1, .inr (.inl g)))] (fun _ : String => False) [(aX, .inr (2, [.ref aB, .ref aL, .ref aT, .int se])), (aL, .inr (1, [.ref aL0, .ref aL1, .ref aL2, .ref aL3, .ref aL4, .ref aL5, .int hu])), (aL3, .inl (cI, 6, .inl lt)), (aL4, .inl (cI, 6, .inl la)), (aL5, .inl (cI, 6, .inl lk)), (aO, .inl (cJ, 1, .inr (.inl g)))] 6 36 := by
  have iX2 : ∀ w ∈ u_ws RX2 TX2 4, w ∈ wsL_passSeasons := fun w h => List.mem_cons_of_mem _ (List.mem_append_left _ (List.mem_append_left _ (List.mem_append_left _ (List.mem_append_right _ h))))
  have iX1 : ∀ w ∈ u_ws RX1 TX1 7, w ∈ wsL_passSeasons := fun w h => List.mem_cons_of_mem _ (List.mem_append_left _ (List.mem_append_left _ (List.mem_append_right _ h)))
  have iX0 : ∀ w ∈ u_ws RX0 TX0 7, w ∈ wsL_passSeasons := fun w h => List.mem_cons_of_mem _ (List.mem_append_left _ (List.mem_append_right _ h))
  have t89 : ∀ w ∈ (vx_atS "FableIndex" 89 z_IAE ["java/lang/RuntimeException", "java/lang/Exception"]).filter goodWord, w ∈ wsL_passSeasons := fun w h => List.mem_cons_of_mem _ (List.mem_append_right _ h)
  refine z_ofWXH (hh := [(0, 9, 12, 29)]) (cc := cL_passSeasons) (nL := 4) (ret := (some .int)) (by decide) rfl (Nat.le_of_ble_eq_true rfl) [0, 5, 9, 10, 11, 12] rfl (lv0 := [(0, .ref aX), (1, .int w), (2, .ref aO)]) rfl ?_
  intro p e s m args below meth c K htab
  refine z_aload_n K 2 dL_passSeasons_0 rfl ?_
  refine z_iconst (v := 0) K dL_passSeasons_1 (by decide) ?_
  refine z_aload_n K 0 dL_passSeasons_2 rfl ?_
  refine z_iload_n K 1 dL_passSeasons_3 rfl ?_
  refine z_callVX (ws' := [(aX, .inr (2, [.ref aB, .ref aL, .ref aT, .int (se + w)])), (aB, .inr (0, [.int (nI n), .ref aB0, .ref aB1, .ref aB2, .ref aB3, .ref aB4, .ref aB5])), (aB0, .inl (cI, 20, .inl fm)), (aB1, .inl (cI, 20, .inl fb)), (aB4, .inl (cI, 20, .inl fv)), (aL, .inr (1, [.ref aL0, .ref aL1, .ref aL2, .ref aL3, .ref aL4, .ref aL5, .int ((livS lw lm (alS lm lb fm fb n la 6) fm fv n lt lk hu (ix w)).2.2.1)])), (aL0, .inl (cI, 6, .inl lw)), (aL1, .inl (cI, 6, .inl lm)), (aL2, .inl (cI, 6, .inl lb)), (aL3, .inl (cI, 6, .inl ((livS lw lm (alS lm lb fm fb n la 6) fm fv n lt lk hu (ix w)).1))), (aL4, .inl (cI, 6, .inl (alS lm lb fm fb n la 6))), (aL5, .inl (cI, 6, .inl ((livS lw lm (alS lm lb fm fb n la 6) fm fv n lt lk hu (ix w)).2.1))), (aO, .inl (cJ, 1, .inr (.inl g)))]) (st' := [.int (cntS (livS lw lm (alS lm lb fm fb n la 6) fm fv n lt lk hu (ix w)).1 (allS n) 6), .int 0, .ref aO]) (rest := [.int 0, .ref aO]) (C := RX2) (T := TX2) (N := 4) K (m_X2_passSeasons l G D cI cJ aX w aB aL aT se n aB0 aB1 aB2 aB3 aB4 aB5 fm fb fv aL0 aL1 aL2 aL3 aL4 aL5 hu lw lm lb lt la lk (by omega)) gL_passSeasons_X2_passSeasons rfl 1 2 (by decide +kernel) rfl dL_passSeasons_4 [0, 1, 2, 3, 4, 5, 6, 7, 8, 9, 10, 11] 0 [0, 5, 9, 10, 11] [0, 1, 2, 3, 4] rfl rfl rfl ⟨by decide, by decide⟩ ⟨by decide, by decide⟩ rfl rfl rfl rfl rfl (Nat.le_of_ble_eq_true rfl) rfl rfl rfl rfl rfl rfl rfl (fun E hE => ?_) (fun hk => absurd hk hcd)
  rcases hE with ⟨h9, rfl⟩ | ⟨h9, rfl⟩
  · refine zx_catch (name := "java/lang/IllegalArgumentException") K htab [] ⟨0, 9, 12, 29⟩ [] rfl (fun _ h => absurd h List.not_mem_nil) (by decide) (by decide) (by decide +kernel) (by decide) (fun q => ?_)
    refine z_astore_n (lv' := [(3, .ref q), (0, .ref aX), (1, .int w), (2, .ref aO)]) K dL_passSeasons_12 (by decide) rfl ?_
    refine z_iconst (v := 1) K dL_passSeasons_13 (by decide) ?_
    exact z_iretX K trivial dL_passSeasons_14 (by rw [h9]; rfl) [0, 5, 9, 10, 11, 12] rfl (by decide) (by decide)
  · exact absurd h9 cd1_ne2

set_option maxRecDepth 100000 in
set_option maxHeartbeats 4000000 in
theorem w0_L_moralOf (l : Launch) (G : Nat → Prop) (D : va_G) (cI cJ : ClassId) (aX : Nat) (w : Int32) (aO : Nat) (aB : Nat) (aL : Nat) (aT : Nat) (se : Int32) (n : Nat) (aB0 : Nat) (aB1 : Nat) (aB2 : Nat) (aB3 : Nat) (aB4 : Nat) (aB5 : Nat) (fm : Nat → Int32) (g : Nat → Int64) (hn : n ≤ 20) (hcd : cd1 (fin w n) = 0) : z_MX l yL_moralOf wsL_moralOf { frames := 8, cells := 6, slots := 36, locals := 124 } G D [(cI, .int), (cJ, .long)] [.ref aX, .int w, .ref aO] [(aX, .inr (2, [.ref aB, .ref aL, .ref aT, .int se])), (aB, .inr (0, [.int (nI n), .ref aB0, .ref aB1, .ref aB2, .ref aB3, .ref aB4, .ref aB5])), (aB0, .inl (cI, 20, .inl fm)), (aO, .inl (cJ, 1, .inr (.inl g)))] (True) (some (.int 0)) [(aO, .inl (cJ, 1, .inr (.inl (vp_updL g 0 (Int32.toInt64 (fm (ix w)))))))] (fun _ : String => False) [(aO, .inl (cJ, 1, .inr (.inl g)))] 6 36 := by
  have iX2 : ∀ w ∈ u_ws RX2 TX2 4, w ∈ wsL_moralOf := fun w h => List.mem_cons_of_mem _ (List.mem_append_left _ (List.mem_append_left _ (List.mem_append_right _ h)))
  have iX0 : ∀ w ∈ u_ws RX0 TX0 7, w ∈ wsL_moralOf := fun w h => List.mem_cons_of_mem _ (List.mem_append_left _ (List.mem_append_right _ h))
  have t242 : ∀ w ∈ (vx_atS "FableIndex" 242 z_IOB ["java/lang/RuntimeException", "java/lang/Exception"]).filter goodWord, w ∈ wsL_moralOf := fun w h => List.mem_cons_of_mem _ (List.mem_append_right _ h)
  refine z_ofWXH (hh := [(0, 9, 12, 13)]) (cc := cL_moralOf) (nL := 4) (ret := (some .int)) (by decide) rfl (Nat.le_of_ble_eq_true rfl) [3] rfl (lv0 := [(0, .ref aX), (1, .int w), (2, .ref aO)]) rfl ?_
  intro p e s m args below meth c K htab
  refine z_aload_n K 2 dL_moralOf_0 rfl ?_
  refine z_iconst (v := 0) K dL_moralOf_1 (by decide) ?_
  refine z_aload_n K 0 dL_moralOf_2 rfl ?_
  refine z_iload_n K 1 dL_moralOf_3 rfl ?_
  refine z_callVX (ws' := [(aX, .inr (2, [.ref aB, .ref aL, .ref aT, .int se])), (aB, .inr (0, [.int (nI n), .ref aB0, .ref aB1, .ref aB2, .ref aB3, .ref aB4, .ref aB5])), (aB0, .inl (cI, 20, .inl fm)), (aO, .inl (cJ, 1, .inr (.inl g)))]) (st' := [.int (fm (ix w)), .int 0, .ref aO]) (rest := [.int 0, .ref aO]) (C := RX2) (T := TX2) (N := 4) K (m_X2_moralOf l G D cI cJ aX w aB aL aT se n aB0 aB1 aB2 aB3 aB4 aB5 fm (by omega)) gL_moralOf_X2_moralOf rfl 1 2 (by decide +kernel) rfl dL_moralOf_4 [0, 1, 2] 0 [] [] rfl rfl rfl ⟨by decide, by decide⟩ ⟨by decide, by decide⟩ rfl rfl rfl rfl rfl (Nat.le_of_ble_eq_true rfl) rfl rfl rfl rfl rfl rfl rfl (fun E hE => zx_no hcd hE) (fun _ => ?_)
  refine z_i2l K dL_moralOf_7 ?_
  refine z_lastN K 3 1 0 (by omega) (by omega) rfl rfl dL_moralOf_8 (z_memA 0 rfl) (ws' := [(aX, .inr (2, [.ref aB, .ref aL, .ref aT, .int se])), (aB, .inr (0, [.int (nI n), .ref aB0, .ref aB1, .ref aB2, .ref aB3, .ref aB4, .ref aB5])), (aB0, .inl (cI, 20, .inl fm)), (aO, .inl (cJ, 1, .inr (.inl (vp_updL g 0 (Int32.toInt64 (fm (ix w)))))))]) rfl ?_
  refine z_goto K 15 dL_moralOf_9 (by decide) ?_
  refine z_iconst (v := 0) K dL_moralOf_15 (by decide) ?_
  exact z_iretX K trivial dL_moralOf_16 (rfl) [3] rfl (by decide) (by decide)

set_option maxRecDepth 100000 in
set_option maxHeartbeats 4000000 in
theorem w1_L_moralOf (l : Launch) (G : Nat → Prop) (D : va_G) (cI cJ : ClassId) (aX : Nat) (w : Int32) (aO : Nat) (aB : Nat) (aL : Nat) (aT : Nat) (se : Int32) (n : Nat) (aB0 : Nat) (aB1 : Nat) (aB2 : Nat) (aB3 : Nat) (aB4 : Nat) (aB5 : Nat) (fm : Nat → Int32) (g : Nat → Int64) (hn : n ≤ 20) (hcd : ¬ cd1 (fin w n) = 0) : z_MX l yL_moralOf wsL_moralOf { frames := 8, cells := 6, slots := 36, locals := 124 } G D [(cI, .int), (cJ, .long)] [.ref aX, .int w, .ref aO] [(aX, .inr (2, [.ref aB, .ref aL, .ref aT, .int se])), (aB, .inr (0, [.int (nI n), .ref aB0, .ref aB1, .ref aB2, .ref aB3, .ref aB4, .ref aB5])), (aB0, .inl (cI, 20, .inl fm)), (aO, .inl (cJ, 1, .inr (.inl g)))] (True) (some (.int (nI (cd1 (fin w n))))) [(aO, .inl (cJ, 1, .inr (.inl g)))] (fun _ : String => False) [(aO, .inl (cJ, 1, .inr (.inl g)))] 6 36 := by
  have iX2 : ∀ w ∈ u_ws RX2 TX2 4, w ∈ wsL_moralOf := fun w h => List.mem_cons_of_mem _ (List.mem_append_left _ (List.mem_append_left _ (List.mem_append_right _ h)))
  have iX0 : ∀ w ∈ u_ws RX0 TX0 7, w ∈ wsL_moralOf := fun w h => List.mem_cons_of_mem _ (List.mem_append_left _ (List.mem_append_right _ h))
  have t242 : ∀ w ∈ (vx_atS "FableIndex" 242 z_IOB ["java/lang/RuntimeException", "java/lang/Exception"]).filter goodWord, w ∈ wsL_moralOf := fun w h => List.mem_cons_of_mem _ (List.mem_append_right _ h)
  refine z_ofWXH (hh := [(0, 9, 12, 13)]) (cc := cL_moralOf) (nL := 4) (ret := (some .int)) (by decide) rfl (Nat.le_of_ble_eq_true rfl) [3] rfl (lv0 := [(0, .ref aX), (1, .int w), (2, .ref aO)]) rfl ?_
  intro p e s m args below meth c K htab
  refine z_aload_n K 2 dL_moralOf_0 rfl ?_
  refine z_iconst (v := 0) K dL_moralOf_1 (by decide) ?_
  refine z_aload_n K 0 dL_moralOf_2 rfl ?_
  refine z_iload_n K 1 dL_moralOf_3 rfl ?_
  refine z_callVX (ws' := [(aX, .inr (2, [.ref aB, .ref aL, .ref aT, .int se])), (aB, .inr (0, [.int (nI n), .ref aB0, .ref aB1, .ref aB2, .ref aB3, .ref aB4, .ref aB5])), (aB0, .inl (cI, 20, .inl fm)), (aO, .inl (cJ, 1, .inr (.inl g)))]) (st' := [.int (fm (ix w)), .int 0, .ref aO]) (rest := [.int 0, .ref aO]) (C := RX2) (T := TX2) (N := 4) K (m_X2_moralOf l G D cI cJ aX w aB aL aT se n aB0 aB1 aB2 aB3 aB4 aB5 fm (by omega)) gL_moralOf_X2_moralOf rfl 1 2 (by decide +kernel) rfl dL_moralOf_4 [0, 1, 2] 0 [] [] rfl rfl rfl ⟨by decide, by decide⟩ ⟨by decide, by decide⟩ rfl rfl rfl rfl rfl (Nat.le_of_ble_eq_true rfl) rfl rfl rfl rfl rfl rfl rfl (fun E hE => ?_) (fun hk => absurd hk hcd)
  rcases hE with ⟨h9, rfl⟩ | ⟨h9, rfl⟩
  · refine zx_catch (name := "java/lang/IndexOutOfBoundsException") K htab [] ⟨0, 9, 12, 13⟩ [] rfl (fun _ h => absurd h List.not_mem_nil) (by decide) (by decide) (by decide +kernel) (by decide) (fun q => ?_)
    refine z_astore_n (lv' := [(3, .ref q), (0, .ref aX), (1, .int w), (2, .ref aO)]) K dL_moralOf_12 (by decide) rfl ?_
    refine z_iconst (v := 1) K dL_moralOf_13 (by decide) ?_
    exact z_iretX K trivial dL_moralOf_14 (by rw [h9]; rfl) [3] rfl (by decide) (by decide)
  · exact absurd h9 cd1_ne2
