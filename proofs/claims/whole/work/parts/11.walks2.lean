set_option maxRecDepth 100000 in
set_option maxHeartbeats 4000000 in
theorem m_X2_needFable (l : Launch) (G : Nat → Prop) (D : va_G) (cI cJ : ClassId) (aX : Nat) (w : Int32) (aB : Nat) (aL : Nat) (aT : Nat) (se : Int32) (n : Nat) (aB0 : Nat) (aB1 : Nat) (aB2 : Nat) (aB3 : Nat) (aB4 : Nat) (aB5 : Nat) (hn : n ≤ 20) : z_MX l yX2_needFable wsX2_needFable { frames := 6, cells := 1, slots := 6, locals := 82 } G D [(cI, .int), (cJ, .long)] [.ref aX, .int w] [(aX, .inr (2, [.ref aB, .ref aL, .ref aT, .int se])), (aB, .inr (0, [.int (nI n), .ref aB0, .ref aB1, .ref aB2, .ref aB3, .ref aB4, .ref aB5]))] (fin w n = true) none [] (fun E => E = z_IOB ∧ fin w n = false) [] 1 6 := by
  have iX2 : ∀ w ∈ u_ws RX2 TX2 4, w ∈ wsX2_needFable := fun w h => List.mem_cons_of_mem _ (List.mem_append_left _ (List.mem_append_left _ (List.mem_append_right _ h)))
  have iX0 : ∀ w ∈ u_ws RX0 TX0 7, w ∈ wsX2_needFable := fun w h => List.mem_cons_of_mem _ (List.mem_append_left _ (List.mem_append_right _ h))
  have t242 : ∀ w ∈ (vx_atS "FableIndex" 242 z_IOB ["java/lang/RuntimeException", "java/lang/Exception"]).filter goodWord, w ∈ wsX2_needFable := fun w h => List.mem_cons_of_mem _ (List.mem_append_right _ h)
  refine z_ofWX (cc := cX2_needFable) (nL := 2) (ret := none) (by decide) rfl (Nat.le_of_ble_eq_true rfl) [] rfl (lv0 := [(0, .ref aX), (1, .int w)]) rfl ?_
  intro p e s m args below meth c K htab
  refine z_iload_n K 1 dX2_needFable_0 rfl ?_
  refine z_if_lt K 15 dX2_needFable_1 (by decide) (fun c1 => ?_) (fun c1 => ?_)
  · exact z_throw (cls := z_IOB) (text := "no such fable") K htab rfl (by decide +kernel) (by decide +kernel) (by decide +kernel) (by decide +kernel) (by decide +kernel) z_ng1 z_gw1 t242 dX2_needFable_15 dX2_needFable_18 dX2_needFable_19 dX2_needFable_21 dX2_needFable_24 ⟨rfl, by simp [fin, *]⟩ [] rfl (by decide) (by decide) (by decide) (by decide) (by decide) (by decide)
  · refine z_iload_n K 1 dX2_needFable_4 rfl ?_
    refine z_aload_n K 0 dX2_needFable_5 rfl ?_
    refine z_get (C := RX2) (T := TX2) (N := 4) (ci := 2) K iX2 rfl 0 rfl 0 (by decide) (by decide +kernel) rfl rfl dX2_needFable_6 ?_
    refine z_get (C := RX0) (T := TX0) (N := 7) (ci := 0) K iX0 rfl 1 rfl 0 (by decide) (by decide +kernel) rfl rfl dX2_needFable_9 ?_
    refine z_icmp_lt K 25 dX2_needFable_12 (by decide) (fun c12 => ?_) (fun c12 => ?_)
    · exact z_vretX K (by simp [fin, *]) dX2_needFable_25 [] rfl (by decide) (by decide)
    · exact z_throw (cls := z_IOB) (text := "no such fable") K htab rfl (by decide +kernel) (by decide +kernel) (by decide +kernel) (by decide +kernel) (by decide +kernel) z_ng1 z_gw1 t242 dX2_needFable_15 dX2_needFable_18 dX2_needFable_19 dX2_needFable_21 dX2_needFable_24 ⟨rfl, by simp [fin, *]⟩ [] rfl (by decide) (by decide) (by decide) (by decide) (by decide) (by decide)

set_option maxRecDepth 100000 in
set_option maxHeartbeats 4000000 in
theorem m_X2_needFreePage (l : Launch) (G : Nat → Prop) (D : va_G) (cI cJ : ClassId) (aX : Nat) (aB : Nat) (aL : Nat) (aT : Nat) (se : Int32) (n : Nat) (aB0 : Nat) (aB1 : Nat) (aB2 : Nat) (aB3 : Nat) (aB4 : Nat) (aB5 : Nat) (hn : n ≤ 20) : z_MX l yX2_needFreePage wsX2_needFreePage { frames := 6, cells := 1, slots := 6, locals := 82 } G D [(cI, .int), (cJ, .long)] [.ref aX] [(aX, .inr (2, [.ref aB, .ref aL, .ref aT, .int se])), (aB, .inr (0, [.int (nI n), .ref aB0, .ref aB1, .ref aB2, .ref aB3, .ref aB4, .ref aB5]))] (n < 20) none [] (fun E => E = z_ISE ∧ ¬ n < 20) [] 1 6 := by
  have iX2 : ∀ w ∈ u_ws RX2 TX2 4, w ∈ wsX2_needFreePage := fun w h => List.mem_cons_of_mem _ (List.mem_append_left _ (List.mem_append_left _ (List.mem_append_right _ h)))
  have iX0 : ∀ w ∈ u_ws RX0 TX0 7, w ∈ wsX2_needFreePage := fun w h => List.mem_cons_of_mem _ (List.mem_append_left _ (List.mem_append_right _ h))
  have t62 : ∀ w ∈ (vx_atS "FableIndex" 62 z_ISE ["java/lang/RuntimeException", "java/lang/Exception"]).filter goodWord, w ∈ wsX2_needFreePage := fun w h => List.mem_cons_of_mem _ (List.mem_append_right _ h)
  refine z_ofWX (cc := cX2_needFreePage) (nL := 1) (ret := none) (by decide) rfl (Nat.le_of_ble_eq_true rfl) [] rfl (lv0 := [(0, .ref aX)]) rfl ?_
  intro p e s m args below meth c K htab
  refine z_aload_n K 0 dX2_needFreePage_0 rfl ?_
  refine z_get (C := RX2) (T := TX2) (N := 4) (ci := 2) K iX2 rfl 0 rfl 0 (by decide) (by decide +kernel) rfl rfl dX2_needFreePage_1 ?_
  refine z_get (C := RX0) (T := TX0) (N := 7) (ci := 0) K iX0 rfl 1 rfl 0 (by decide) (by decide +kernel) rfl rfl dX2_needFreePage_4 ?_
  refine z_bipush (v := 20) K dX2_needFreePage_7 (by decide) ?_
  refine z_icmp_lt K 22 dX2_needFreePage_9 (by decide) (fun c9 => ?_) (fun c9 => ?_)
  · exact z_vretX K ((nI_ltI (a := n) (b := 20) (by omega) (by omega)).mp c9) dX2_needFreePage_22 [] rfl (by decide) (by decide)
  · exact z_throw (cls := z_ISE) (text := "there are 20 fables") K htab rfl (by decide +kernel) (by decide +kernel) (by decide +kernel) (by decide +kernel) (by decide +kernel) z_ng2 z_gw2 t62 dX2_needFreePage_12 dX2_needFreePage_15 dX2_needFreePage_16 dX2_needFreePage_18 dX2_needFreePage_21 ⟨rfl, fun h => c9 ((nI_ltI (a := n) (b := 20) (by omega) (by omega)).mpr h)⟩ [] rfl (by decide) (by decide) (by decide) (by decide) (by decide) (by decide)

set_option maxRecDepth 100000 in
set_option maxHeartbeats 4000000 in
theorem m_X2_needMoral (l : Launch) (G : Nat → Prop) (D : va_G) (cI cJ : ClassId) (w : Int32)  : z_MX l yX2_needMoral wsX2_needMoral { frames := 6, cells := 1, slots := 6, locals := 82 } G D [(cI, .int), (cJ, .long)] [.int w] [] (fin w 10 = true) none [] (fun E => E = z_IOB ∧ fin w 10 = false) [] 1 6 := by
  have t242 : ∀ w ∈ (vx_atS "FableIndex" 242 z_IOB ["java/lang/RuntimeException", "java/lang/Exception"]).filter goodWord, w ∈ wsX2_needMoral := fun w h => List.mem_cons_of_mem _ (List.mem_append_right _ h)
  refine z_ofWX (cc := cX2_needMoral) (nL := 1) (ret := none) (by decide) rfl (Nat.le_of_ble_eq_true rfl) [] rfl (lv0 := [(0, .int w)]) rfl ?_
  intro p e s m args below meth c K htab
  refine z_iload_n K 0 dX2_needMoral_0 rfl ?_
  refine z_if_lt K 10 dX2_needMoral_1 (by decide) (fun c1 => ?_) (fun c1 => ?_)
  · exact z_throw (cls := z_IOB) (text := "no such moral") K htab rfl (by decide +kernel) (by decide +kernel) (by decide +kernel) (by decide +kernel) (by decide +kernel) z_ng1 z_gw1 t242 dX2_needMoral_10 dX2_needMoral_13 dX2_needMoral_14 dX2_needMoral_16 dX2_needMoral_19 ⟨rfl, by simp [fin, show nI 10 = 10 from rfl, *]⟩ [] rfl (by decide) (by decide) (by decide) (by decide) (by decide) (by decide)
  · refine z_iload_n K 0 dX2_needMoral_4 rfl ?_
    refine z_bipush (v := 10) K dX2_needMoral_5 (by decide) ?_
    refine z_icmp_lt K 20 dX2_needMoral_7 (by decide) (fun c7 => ?_) (fun c7 => ?_)
    · exact z_vretX K (by simp [fin, show nI 10 = 10 from rfl, *]) dX2_needMoral_20 [] rfl (by decide) (by decide)
    · exact z_throw (cls := z_IOB) (text := "no such moral") K htab rfl (by decide +kernel) (by decide +kernel) (by decide +kernel) (by decide +kernel) (by decide +kernel) z_ng1 z_gw1 t242 dX2_needMoral_10 dX2_needMoral_13 dX2_needMoral_14 dX2_needMoral_16 dX2_needMoral_19 ⟨rfl, by simp [fin, show nI 10 = 10 from rfl, *]⟩ [] rfl (by decide) (by decide) (by decide) (by decide) (by decide) (by decide)

set_option maxRecDepth 100000 in
set_option maxHeartbeats 4000000 in
theorem m_X2_needBeast (l : Launch) (G : Nat → Prop) (D : va_G) (cI cJ : ClassId) (w : Int32)  : z_MX l yX2_needBeast wsX2_needBeast { frames := 6, cells := 1, slots := 6, locals := 82 } G D [(cI, .int), (cJ, .long)] [.int w] [] (fin w 12 = true) none [] (fun E => E = z_IOB ∧ fin w 12 = false) [] 1 6 := by
  have t242 : ∀ w ∈ (vx_atS "FableIndex" 242 z_IOB ["java/lang/RuntimeException", "java/lang/Exception"]).filter goodWord, w ∈ wsX2_needBeast := fun w h => List.mem_cons_of_mem _ (List.mem_append_right _ h)
  refine z_ofWX (cc := cX2_needBeast) (nL := 1) (ret := none) (by decide) rfl (Nat.le_of_ble_eq_true rfl) [] rfl (lv0 := [(0, .int w)]) rfl ?_
  intro p e s m args below meth c K htab
  refine z_iload_n K 0 dX2_needBeast_0 rfl ?_
  refine z_if_lt K 10 dX2_needBeast_1 (by decide) (fun c1 => ?_) (fun c1 => ?_)
  · exact z_throw (cls := z_IOB) (text := "no such beast") K htab rfl (by decide +kernel) (by decide +kernel) (by decide +kernel) (by decide +kernel) (by decide +kernel) z_ng1 z_gw1 t242 dX2_needBeast_10 dX2_needBeast_13 dX2_needBeast_14 dX2_needBeast_16 dX2_needBeast_19 ⟨rfl, by simp [fin, show nI 12 = 12 from rfl, *]⟩ [] rfl (by decide) (by decide) (by decide) (by decide) (by decide) (by decide)
  · refine z_iload_n K 0 dX2_needBeast_4 rfl ?_
    refine z_bipush (v := 12) K dX2_needBeast_5 (by decide) ?_
    refine z_icmp_lt K 20 dX2_needBeast_7 (by decide) (fun c7 => ?_) (fun c7 => ?_)
    · exact z_vretX K (by simp [fin, show nI 12 = 12 from rfl, *]) dX2_needBeast_20 [] rfl (by decide) (by decide)
    · exact z_throw (cls := z_IOB) (text := "no such beast") K htab rfl (by decide +kernel) (by decide +kernel) (by decide +kernel) (by decide +kernel) (by decide +kernel) z_ng1 z_gw1 t242 dX2_needBeast_10 dX2_needBeast_13 dX2_needBeast_14 dX2_needBeast_16 dX2_needBeast_19 ⟨rfl, by simp [fin, show nI 12 = 12 from rfl, *]⟩ [] rfl (by decide) (by decide) (by decide) (by decide) (by decide) (by decide)

set_option maxRecDepth 100000 in
set_option maxHeartbeats 4000000 in
theorem m_X2_needValley (l : Launch) (G : Nat → Prop) (D : va_G) (cI cJ : ClassId) (w : Int32)  : z_MX l yX2_needValley wsX2_needValley { frames := 6, cells := 1, slots := 6, locals := 82 } G D [(cI, .int), (cJ, .long)] [.int w] [] (fin w 6 = true) none [] (fun E => E = z_IOB ∧ fin w 6 = false) [] 1 6 := by
  have t242 : ∀ w ∈ (vx_atS "FableIndex" 242 z_IOB ["java/lang/RuntimeException", "java/lang/Exception"]).filter goodWord, w ∈ wsX2_needValley := fun w h => List.mem_cons_of_mem _ (List.mem_append_right _ h)
  refine z_ofWX (cc := cX2_needValley) (nL := 1) (ret := none) (by decide) rfl (Nat.le_of_ble_eq_true rfl) [] rfl (lv0 := [(0, .int w)]) rfl ?_
  intro p e s m args below meth c K htab
  refine z_iload_n K 0 dX2_needValley_0 rfl ?_
  refine z_if_lt K 10 dX2_needValley_1 (by decide) (fun c1 => ?_) (fun c1 => ?_)
  · exact z_throw (cls := z_IOB) (text := "no such valley") K htab rfl (by decide +kernel) (by decide +kernel) (by decide +kernel) (by decide +kernel) (by decide +kernel) z_ng1 z_gw1 t242 dX2_needValley_10 dX2_needValley_13 dX2_needValley_14 dX2_needValley_16 dX2_needValley_19 ⟨rfl, by simp [fin, show nI 6 = 6 from rfl, *]⟩ [] rfl (by decide) (by decide) (by decide) (by decide) (by decide) (by decide)
  · refine z_iload_n K 0 dX2_needValley_4 rfl ?_
    refine z_bipush (v := 6) K dX2_needValley_5 (by decide) ?_
    refine z_icmp_lt K 20 dX2_needValley_7 (by decide) (fun c7 => ?_) (fun c7 => ?_)
    · exact z_vretX K (by simp [fin, show nI 6 = 6 from rfl, *]) dX2_needValley_20 [] rfl (by decide) (by decide)
    · exact z_throw (cls := z_IOB) (text := "no such valley") K htab rfl (by decide +kernel) (by decide +kernel) (by decide +kernel) (by decide +kernel) (by decide +kernel) z_ng1 z_gw1 t242 dX2_needValley_10 dX2_needValley_13 dX2_needValley_14 dX2_needValley_16 dX2_needValley_19 ⟨rfl, by simp [fin, show nI 6 = 6 from rfl, *]⟩ [] rfl (by decide) (by decide) (by decide) (by decide) (by decide) (by decide)

set_option maxRecDepth 100000 in
set_option maxHeartbeats 4000000 in
theorem m_X2_needSeasons (l : Launch) (G : Nat → Prop) (D : va_G) (cI cJ : ClassId) (w : Int32) (x : Int32)  : z_MX l yX2_needSeasons wsX2_needSeasons { frames := 6, cells := 1, slots := 6, locals := 82 } G D [(cI, .int), (cJ, .long)] [.int w, .int x] [] (sea w x = true) none [] (fun E => E = z_IAE ∧ sea w x = false) [] 1 6 := by
  have t89 : ∀ w ∈ (vx_atS "FableIndex" 89 z_IAE ["java/lang/RuntimeException", "java/lang/Exception"]).filter goodWord, w ∈ wsX2_needSeasons := fun w h => List.mem_cons_of_mem _ (List.mem_append_right _ h)
  refine z_ofWX (cc := cX2_needSeasons) (nL := 2) (ret := none) (by decide) rfl (Nat.le_of_ble_eq_true rfl) [] rfl (lv0 := [(0, .int w), (1, .int x)]) rfl ?_
  intro p e s m args below meth c K htab
  refine z_iload_n K 0 dX2_needSeasons_0 rfl ?_
  refine z_iconst (v := 1) K dX2_needSeasons_1 (by decide) ?_
  refine z_icmp_lt K 10 dX2_needSeasons_2 (by decide) (fun c2 => ?_) (fun c2 => ?_)
  · exact z_throw (cls := z_IAE) (text := "too few seasons or too many") K htab rfl (by decide +kernel) (by decide +kernel) (by decide +kernel) (by decide +kernel) (by decide +kernel) z_ng3 z_gw3 t89 dX2_needSeasons_10 dX2_needSeasons_13 dX2_needSeasons_14 dX2_needSeasons_16 dX2_needSeasons_19 ⟨rfl, by simp [sea, *]⟩ [] rfl (by decide) (by decide) (by decide) (by decide) (by decide) (by decide)
  · refine z_iload_n K 0 dX2_needSeasons_5 rfl ?_
    refine z_iload_n K 1 dX2_needSeasons_6 rfl ?_
    refine z_icmp_le K 20 dX2_needSeasons_7 (by decide) (fun c7 => ?_) (fun c7 => ?_)
    · exact z_vretX K (by simp [sea, *]) dX2_needSeasons_20 [] rfl (by decide) (by decide)
    · exact z_throw (cls := z_IAE) (text := "too few seasons or too many") K htab rfl (by decide +kernel) (by decide +kernel) (by decide +kernel) (by decide +kernel) (by decide +kernel) z_ng3 z_gw3 t89 dX2_needSeasons_10 dX2_needSeasons_13 dX2_needSeasons_14 dX2_needSeasons_16 dX2_needSeasons_19 ⟨rfl, by simp [sea, *]⟩ [] rfl (by decide) (by decide) (by decide) (by decide) (by decide) (by decide)

set_option maxRecDepth 100000 in
set_option maxHeartbeats 4000000 in
theorem m_X2_addFable (l : Launch) (G : Nat → Prop) (D : va_G) (cI cJ : ClassId) (aX : Nat) (w : Int32) (x : Int32) (y : Int32) (aB : Nat) (aL : Nat) (aT : Nat) (se : Int32) (n : Nat) (aB0 : Nat) (aB1 : Nat) (aB2 : Nat) (aB3 : Nat) (aB4 : Nat) (aB5 : Nat) (fm : Nat → Int32) (fb : Nat → Int32) (fh : Nat → Int32) (fp : Nat → Int32) (fv : Nat → Int32) (fa : Nat → Int32) (hn : n ≤ 20) : z_MX l yX2_addFable wsX2_addFable { frames := 7, cells := 6, slots := 36, locals := 102 } G D [(cI, .int), (cJ, .long)] [.ref aX, .int w, .int x, .int y] [(aX, .inr (2, [.ref aB, .ref aL, .ref aT, .int se])), (aB, .inr (0, [.int (nI n), .ref aB0, .ref aB1, .ref aB2, .ref aB3, .ref aB4, .ref aB5])), (aB0, .inl (cI, 20, .inl fm)), (aB1, .inl (cI, 20, .inl fb)), (aB2, .inl (cI, 20, .inl fh)), (aB3, .inl (cI, 20, .inl fp)), (aB4, .inl (cI, 20, .inl fv)), (aB5, .inl (cI, 20, .inl fa))] (cdAF w x y n = 0) (some (.int (nI n))) [(aB, .inr (0, [.int (nI (n + 1)), .ref aB0, .ref aB1, .ref aB2, .ref aB3, .ref aB4, .ref aB5])), (aB0, .inl (cI, 20, .inl (upd fm n w))), (aB1, .inl (cI, 20, .inl (upd fb n ((1 : Int32) <<< (x &&& 31))))), (aB2, .inl (cI, 20, .inl (upd fh n y))), (aB3, .inl (cI, 20, .inl (upd fp n (-1)))), (aB4, .inl (cI, 20, .inl (wrV fv n (-1)))), (aB5, .inl (cI, 20, .inl (wrA fa n (-1))))] (z_exc z_IOB z_ISE (cdAF w x y n)) [(aB, .inr (0, [.int (nI n), .ref aB0, .ref aB1, .ref aB2, .ref aB3, .ref aB4, .ref aB5])), (aB0, .inl (cI, 20, .inl fm)), (aB1, .inl (cI, 20, .inl fb)), (aB2, .inl (cI, 20, .inl fh)), (aB3, .inl (cI, 20, .inl fp)), (aB4, .inl (cI, 20, .inl fv)), (aB5, .inl (cI, 20, .inl fa))] 6 36 := by
  have iX2 : ∀ w ∈ u_ws RX2 TX2 4, w ∈ wsX2_addFable := fun w h => List.mem_cons_of_mem _ (List.mem_append_left _ (List.mem_append_left _ (List.mem_append_left _ (List.mem_append_right _ h))))
  have iX0 : ∀ w ∈ u_ws RX0 TX0 7, w ∈ wsX2_addFable := fun w h => List.mem_cons_of_mem _ (List.mem_append_left _ (List.mem_append_left _ (List.mem_append_right _ h)))
  have t242 : ∀ w ∈ (vx_atS "FableIndex" 242 z_IOB ["java/lang/RuntimeException", "java/lang/Exception"]).filter goodWord, w ∈ wsX2_addFable := fun w h => List.mem_cons_of_mem _ (List.mem_append_left _ (List.mem_append_right _ h))
  have t62 : ∀ w ∈ (vx_atS "FableIndex" 62 z_ISE ["java/lang/RuntimeException", "java/lang/Exception"]).filter goodWord, w ∈ wsX2_addFable := fun w h => List.mem_cons_of_mem _ (List.mem_append_right _ h)
  refine z_ofWX (cc := cX2_addFable) (nL := 4) (ret := (some .int)) (by decide) rfl (Nat.le_of_ble_eq_true rfl) [1, 2, 3, 4, 5, 6, 7] rfl (lv0 := [(0, .ref aX), (1, .int w), (2, .int x), (3, .int y)]) rfl ?_
  intro p e s m args below meth c K htab
  refine z_iload_n K 1 dX2_addFable_0 rfl ?_
  refine z_callSX (ws' := [(aX, .inr (2, [.ref aB, .ref aL, .ref aT, .int se])), (aB, .inr (0, [.int (nI n), .ref aB0, .ref aB1, .ref aB2, .ref aB3, .ref aB4, .ref aB5])), (aB0, .inl (cI, 20, .inl fm)), (aB1, .inl (cI, 20, .inl fb)), (aB2, .inl (cI, 20, .inl fh)), (aB3, .inl (cI, 20, .inl fp)), (aB4, .inl (cI, 20, .inl fv)), (aB5, .inl (cI, 20, .inl fa))]) (st' := []) (rest := []) K (m_X2_needMoral l G D cI cJ w ) gX2_addFable_X2_needMoral rfl 1 (by decide +kernel) dX2_addFable_1 [] [] [] rfl rfl rfl ⟨by decide, by decide⟩ ⟨by decide, by decide⟩ rfl rfl rfl rfl (Nat.le_of_ble_eq_true rfl) rfl rfl rfl rfl rfl rfl rfl (fun E hE => zx_out K htab rfl (by obtain ⟨rfl, h9⟩ := hE; simp [z_exc, cdAF, h9]) [1, 2, 3, 4, 5, 6, 7] rfl (by decide) (by decide)) (fun k1 => ?_)
  refine z_iload_n K 2 dX2_addFable_4 rfl ?_
  refine z_callSX (ws' := [(aX, .inr (2, [.ref aB, .ref aL, .ref aT, .int se])), (aB, .inr (0, [.int (nI n), .ref aB0, .ref aB1, .ref aB2, .ref aB3, .ref aB4, .ref aB5])), (aB0, .inl (cI, 20, .inl fm)), (aB1, .inl (cI, 20, .inl fb)), (aB2, .inl (cI, 20, .inl fh)), (aB3, .inl (cI, 20, .inl fp)), (aB4, .inl (cI, 20, .inl fv)), (aB5, .inl (cI, 20, .inl fa))]) (st' := []) (rest := []) K (m_X2_needBeast l G D cI cJ x ) gX2_addFable_X2_needBeast rfl 1 (by decide +kernel) dX2_addFable_5 [] [] [] rfl rfl rfl ⟨by decide, by decide⟩ ⟨by decide, by decide⟩ rfl rfl rfl rfl (Nat.le_of_ble_eq_true rfl) rfl rfl rfl rfl rfl rfl rfl (fun E hE => zx_out K htab rfl (by obtain ⟨rfl, h9⟩ := hE; simp [z_exc, cdAF, k1, h9]) [1, 2, 3, 4, 5, 6, 7] rfl (by decide) (by decide)) (fun k5 => ?_)
  refine z_iload_n K 3 dX2_addFable_8 rfl ?_
  refine z_callSX (ws' := [(aX, .inr (2, [.ref aB, .ref aL, .ref aT, .int se])), (aB, .inr (0, [.int (nI n), .ref aB0, .ref aB1, .ref aB2, .ref aB3, .ref aB4, .ref aB5])), (aB0, .inl (cI, 20, .inl fm)), (aB1, .inl (cI, 20, .inl fb)), (aB2, .inl (cI, 20, .inl fh)), (aB3, .inl (cI, 20, .inl fp)), (aB4, .inl (cI, 20, .inl fv)), (aB5, .inl (cI, 20, .inl fa))]) (st' := []) (rest := []) K (m_X2_needValley l G D cI cJ y ) gX2_addFable_X2_needValley rfl 1 (by decide +kernel) dX2_addFable_9 [] [] [] rfl rfl rfl ⟨by decide, by decide⟩ ⟨by decide, by decide⟩ rfl rfl rfl rfl (Nat.le_of_ble_eq_true rfl) rfl rfl rfl rfl rfl rfl rfl (fun E hE => zx_out K htab rfl (by obtain ⟨rfl, h9⟩ := hE; simp [z_exc, cdAF, k1, k5, h9]) [1, 2, 3, 4, 5, 6, 7] rfl (by decide) (by decide)) (fun k9 => ?_)
  obtain ⟨jy, hjy, rfl⟩ := fin_ix k9 (by omega)
  have ejy : ix (nI jy) = jy := ix_nI (by omega)
  refine z_aload_n K 0 dX2_addFable_12 rfl ?_
  refine z_callVX (ws' := [(aX, .inr (2, [.ref aB, .ref aL, .ref aT, .int se])), (aB, .inr (0, [.int (nI n), .ref aB0, .ref aB1, .ref aB2, .ref aB3, .ref aB4, .ref aB5])), (aB0, .inl (cI, 20, .inl fm)), (aB1, .inl (cI, 20, .inl fb)), (aB2, .inl (cI, 20, .inl fh)), (aB3, .inl (cI, 20, .inl fp)), (aB4, .inl (cI, 20, .inl fv)), (aB5, .inl (cI, 20, .inl fa))]) (st' := []) (rest := []) (C := RX2) (T := TX2) (N := 4) K (m_X2_needFreePage l G D cI cJ aX aB aL aT se n aB0 aB1 aB2 aB3 aB4 aB5 (by omega)) gX2_addFable_X2_needFreePage rfl 0 2 (by decide +kernel) rfl dX2_addFable_13 [0, 1] 0 [] [] rfl rfl rfl ⟨by decide, by decide⟩ ⟨by decide, by decide⟩ rfl rfl rfl rfl rfl (Nat.le_of_ble_eq_true rfl) rfl rfl rfl rfl rfl rfl rfl (fun E hE => zx_out K htab rfl (by obtain ⟨rfl, h9⟩ := hE; simp [z_exc, cdAF, k1, k5, k9, ejy, h9]) [1, 2, 3, 4, 5, 6, 7] rfl (by decide) (by decide)) (fun k13 => ?_)
  refine z_aload_n K 0 dX2_addFable_16 rfl ?_
  refine z_get (C := RX2) (T := TX2) (N := 4) (ci := 2) K iX2 rfl 0 rfl 0 (by decide) (by decide +kernel) rfl rfl dX2_addFable_17 ?_
  refine z_iload_n K 1 dX2_addFable_20 rfl ?_
  refine z_iconst (v := 1) K dX2_addFable_21 (by decide) ?_
  refine z_iload_n K 2 dX2_addFable_22 rfl ?_
  refine z_ishl K dX2_addFable_23 ?_
  refine z_iload_n K 3 dX2_addFable_24 rfl ?_
  refine z_iconst (v := (-1)) K dX2_addFable_25 (by decide) ?_
  refine z_callV (ws' := [(aX, .inr (2, [.ref aB, .ref aL, .ref aT, .int se])), (aB, .inr (0, [.int (nI (n + 1)), .ref aB0, .ref aB1, .ref aB2, .ref aB3, .ref aB4, .ref aB5])), (aB0, .inl (cI, 20, .inl (upd fm n w))), (aB1, .inl (cI, 20, .inl (upd fb n ((1 : Int32) <<< (x &&& 31))))), (aB2, .inl (cI, 20, .inl (upd fh n (nI jy)))), (aB3, .inl (cI, 20, .inl (upd fp n (-1)))), (aB4, .inl (cI, 20, .inl (wrV fv n (-1)))), (aB5, .inl (cI, 20, .inl (wrA fa n (-1))))]) (st' := [.int (nI n)]) (rest := []) (C := RX0) (T := TX0) (N := 7) K (m_X0_write l G D cI cJ aB w ((1 : Int32) <<< (x &&& 31)) (nI jy) (-1) n aB0 aB1 aB2 aB3 aB4 aB5 fm fb fh fp fv fa (by omega) (Or.inl rfl)) gX2_addFable_X0_write rfl 4 0 (by decide +kernel) rfl dX2_addFable_26 [1, 2, 3, 4, 5, 6, 7] 1 [1, 2, 3, 4, 5, 6, 7] [0, 1, 2, 3, 4, 5, 6] rfl rfl rfl ⟨by decide, by decide⟩ ⟨by decide, by decide⟩ rfl rfl rfl rfl rfl (Nat.le_of_ble_eq_true rfl) rfl rfl rfl rfl ?_
  exact z_iretX K (by simp [cdAF, k1, k5, k9, ejy, k13]) dX2_addFable_29 (rfl) [1, 2, 3, 4, 5, 6, 7] rfl (by decide) (by decide)

set_option maxRecDepth 100000 in
set_option maxHeartbeats 4000000 in
theorem m_X2_addBeast (l : Launch) (G : Nat → Prop) (D : va_G) (cI cJ : ClassId) (aX : Nat) (w : Int32) (x : Int32) (aB : Nat) (aL : Nat) (aT : Nat) (se : Int32) (n : Nat) (aB0 : Nat) (aB1 : Nat) (aB2 : Nat) (aB3 : Nat) (aB4 : Nat) (aB5 : Nat) (fb : Nat → Int32) (fv : Nat → Int32) (hn : n ≤ 20) : z_MX l yX2_addBeast wsX2_addBeast { frames := 7, cells := 6, slots := 36, locals := 103 } G D [(cI, .int), (cJ, .long)] [.ref aX, .int w, .int x] [(aX, .inr (2, [.ref aB, .ref aL, .ref aT, .int se])), (aB, .inr (0, [.int (nI n), .ref aB0, .ref aB1, .ref aB2, .ref aB3, .ref aB4, .ref aB5])), (aB1, .inl (cI, 20, .inl fb)), (aB4, .inl (cI, 20, .inl fv))] (cdAB w x n fb fv = 0) (some (.int (pc (abF fb (ix w) x (ix w))))) [(aB1, .inl (cI, 20, .inl (abF fb (ix w) x)))] (z_exc z_IOB z_ISE (cdAB w x n fb fv)) [(aB1, .inl (cI, 20, .inl fb))] 6 36 := by
  have iX2 : ∀ w ∈ u_ws RX2 TX2 4, w ∈ wsX2_addBeast := fun w h => List.mem_cons_of_mem _ (List.mem_append_left _ (List.mem_append_left _ (List.mem_append_left _ (List.mem_append_right _ h))))
  have iX0 : ∀ w ∈ u_ws RX0 TX0 7, w ∈ wsX2_addBeast := fun w h => List.mem_cons_of_mem _ (List.mem_append_left _ (List.mem_append_left _ (List.mem_append_right _ h)))
  have t62 : ∀ w ∈ (vx_atS "FableIndex" 62 z_ISE ["java/lang/RuntimeException", "java/lang/Exception"]).filter goodWord, w ∈ wsX2_addBeast := fun w h => List.mem_cons_of_mem _ (List.mem_append_left _ (List.mem_append_right _ h))
  have t242 : ∀ w ∈ (vx_atS "FableIndex" 242 z_IOB ["java/lang/RuntimeException", "java/lang/Exception"]).filter goodWord, w ∈ wsX2_addBeast := fun w h => List.mem_cons_of_mem _ (List.mem_append_right _ h)
  refine z_ofWX (cc := cX2_addBeast) (nL := 3) (ret := (some .int)) (by decide) rfl (Nat.le_of_ble_eq_true rfl) [2] rfl (lv0 := [(0, .ref aX), (1, .int w), (2, .int x)]) rfl ?_
  intro p e s m args below meth c K htab
  refine z_aload_n K 0 dX2_addBeast_0 rfl ?_
  refine z_iload_n K 1 dX2_addBeast_1 rfl ?_
  refine z_callVX (ws' := [(aX, .inr (2, [.ref aB, .ref aL, .ref aT, .int se])), (aB, .inr (0, [.int (nI n), .ref aB0, .ref aB1, .ref aB2, .ref aB3, .ref aB4, .ref aB5])), (aB1, .inl (cI, 20, .inl fb)), (aB4, .inl (cI, 20, .inl fv))]) (st' := []) (rest := []) (C := RX2) (T := TX2) (N := 4) K (m_X2_needFable l G D cI cJ aX w aB aL aT se n aB0 aB1 aB2 aB3 aB4 aB5 (by omega)) gX2_addBeast_X2_needFable rfl 1 2 (by decide +kernel) rfl dX2_addBeast_2 [0, 1] 0 [] [] rfl rfl rfl ⟨by decide, by decide⟩ ⟨by decide, by decide⟩ rfl rfl rfl rfl rfl (Nat.le_of_ble_eq_true rfl) rfl rfl rfl rfl rfl rfl rfl (fun E hE => zx_out K htab rfl (by obtain ⟨rfl, h9⟩ := hE; simp [z_exc, cdAB, h9]) [2] rfl (by decide) (by decide)) (fun k2 => ?_)
  obtain ⟨jw, hjw, rfl⟩ := fin_ix k2 (by omega)
  have ejw : ix (nI jw) = jw := ix_nI (by omega)
  refine z_iload_n K 2 dX2_addBeast_5 rfl ?_
  refine z_callSX (ws' := [(aX, .inr (2, [.ref aB, .ref aL, .ref aT, .int se])), (aB, .inr (0, [.int (nI n), .ref aB0, .ref aB1, .ref aB2, .ref aB3, .ref aB4, .ref aB5])), (aB1, .inl (cI, 20, .inl fb)), (aB4, .inl (cI, 20, .inl fv))]) (st' := []) (rest := []) K (m_X2_needBeast l G D cI cJ x ) gX2_addBeast_X2_needBeast rfl 1 (by decide +kernel) dX2_addBeast_6 [] [] [] rfl rfl rfl ⟨by decide, by decide⟩ ⟨by decide, by decide⟩ rfl rfl rfl rfl (Nat.le_of_ble_eq_true rfl) rfl rfl rfl rfl rfl rfl rfl (fun E hE => zx_out K htab rfl (by obtain ⟨rfl, h9⟩ := hE; simp [z_exc, cdAB, k2, ejw, h9]) [2] rfl (by decide) (by decide)) (fun k6 => ?_)
  refine z_aload_n K 0 dX2_addBeast_9 rfl ?_
  refine z_get (C := RX2) (T := TX2) (N := 4) (ci := 2) K iX2 rfl 0 rfl 0 (by decide) (by decide +kernel) rfl rfl dX2_addBeast_10 ?_
  refine z_get (C := RX0) (T := TX0) (N := 7) (ci := 0) K iX0 rfl 1 rfl 2 (by decide) (by decide +kernel) rfl rfl dX2_addBeast_13 ?_
  refine z_iload_n K 1 dX2_addBeast_16 rfl ?_
  refine z_ialdN K 2 0 jw (by omega) (by omega) rfl rfl dX2_addBeast_17 ?_
  refine z_iload_n K 2 dX2_addBeast_18 rfl ?_
  refine z_callS (ws' := [(aX, .inr (2, [.ref aB, .ref aL, .ref aT, .int se])), (aB, .inr (0, [.int (nI n), .ref aB0, .ref aB1, .ref aB2, .ref aB3, .ref aB4, .ref aB5])), (aB1, .inl (cI, 20, .inl fb)), (aB4, .inl (cI, 20, .inl fv))]) (st' := [.int (z_b (hs (fb jw) x))]) (rest := []) K (m_X2_has l G D cI cJ (fb jw) x ) gX2_addBeast_X2_has rfl 2 (by decide +kernel) dX2_addBeast_19 [] [] [] rfl rfl rfl ⟨by decide, by decide⟩ ⟨by decide, by decide⟩ rfl rfl rfl rfl (Nat.le_of_ble_eq_true rfl) rfl rfl rfl rfl ?_
  refine z_if_eqB K 35 dX2_addBeast_22 (by decide) (fun c22 => ?_) (fun c22 => ?_)
  · refine z_aload_n K 0 dX2_addBeast_35 rfl ?_
    refine z_get (C := RX2) (T := TX2) (N := 4) (ci := 2) K iX2 rfl 0 rfl 0 (by decide) (by decide +kernel) rfl rfl dX2_addBeast_36 ?_
    refine z_get (C := RX0) (T := TX0) (N := 7) (ci := 0) K iX0 rfl 1 rfl 5 (by decide) (by decide +kernel) rfl rfl dX2_addBeast_39 ?_
    refine z_iload_n K 1 dX2_addBeast_42 rfl ?_
    refine z_ialdN K 3 0 jw (by omega) (by omega) rfl rfl dX2_addBeast_43 ?_
    refine z_if_eq K 57 dX2_addBeast_44 (by decide) (fun c44 => ?_) (fun c44 => ?_)
    · refine z_aload_n K 0 dX2_addBeast_57 rfl ?_
      refine z_get (C := RX2) (T := TX2) (N := 4) (ci := 2) K iX2 rfl 0 rfl 0 (by decide) (by decide +kernel) rfl rfl dX2_addBeast_58 ?_
      refine z_get (C := RX0) (T := TX0) (N := 7) (ci := 0) K iX0 rfl 1 rfl 2 (by decide) (by decide +kernel) rfl rfl dX2_addBeast_61 ?_
      refine z_iload_n K 1 dX2_addBeast_64 rfl ?_
      refine z_dup2 K dX2_addBeast_65 rfl rfl ?_
      refine z_ialdN K 2 0 jw (by omega) (by omega) rfl rfl dX2_addBeast_66 ?_
      refine z_iconst (v := 1) K dX2_addBeast_67 (by decide) ?_
      refine z_iload_n K 2 dX2_addBeast_68 rfl ?_
      refine z_ishl K dX2_addBeast_69 ?_
      refine z_ior K dX2_addBeast_70 ?_
      refine z_iastN K 2 0 jw (by omega) (by omega) rfl rfl dX2_addBeast_71 (z_memA 0 rfl) (ws' := [(aX, .inr (2, [.ref aB, .ref aL, .ref aT, .int se])), (aB, .inr (0, [.int (nI n), .ref aB0, .ref aB1, .ref aB2, .ref aB3, .ref aB4, .ref aB5])), (aB1, .inl (cI, 20, .inl (upd fb jw ((fb jw) ||| ((1 : Int32) <<< (x &&& 31)))))), (aB4, .inl (cI, 20, .inl fv))]) rfl ?_
      refine z_aload_n K 0 dX2_addBeast_72 rfl ?_
      refine z_get (C := RX2) (T := TX2) (N := 4) (ci := 2) K iX2 rfl 0 rfl 0 (by decide) (by decide +kernel) rfl rfl dX2_addBeast_73 ?_
      refine z_get (C := RX0) (T := TX0) (N := 7) (ci := 0) K iX0 rfl 1 rfl 2 (by decide) (by decide +kernel) rfl rfl dX2_addBeast_76 ?_
      refine z_iload_n K 1 dX2_addBeast_79 rfl ?_
      refine z_ialdN K 2 0 jw (by omega) (by omega) rfl rfl dX2_addBeast_80 ?_
      refine z_callS (ws' := [(aX, .inr (2, [.ref aB, .ref aL, .ref aT, .int se])), (aB, .inr (0, [.int (nI n), .ref aB0, .ref aB1, .ref aB2, .ref aB3, .ref aB4, .ref aB5])), (aB1, .inl (cI, 20, .inl (upd fb jw ((fb jw) ||| ((1 : Int32) <<< (x &&& 31)))))), (aB4, .inl (cI, 20, .inl fv))]) (st' := [.int (pc ((upd fb jw ((fb jw) ||| ((1 : Int32) <<< (x &&& 31)))) jw))]) (rest := []) K (m_X2_size l G D cI cJ ((upd fb jw ((fb jw) ||| ((1 : Int32) <<< (x &&& 31)))) jw) ) gX2_addBeast_X2_size rfl 1 (by decide +kernel) dX2_addBeast_81 [] [] [] rfl rfl rfl ⟨by decide, by decide⟩ ⟨by decide, by decide⟩ rfl rfl rfl rfl (Nat.le_of_ble_eq_true rfl) rfl rfl rfl rfl ?_
      rw [show (pc ((upd fb jw ((fb jw) ||| ((1 : Int32) <<< (x &&& 31)))) jw)) = (pc (abF fb (ix (nI jw)) x (ix (nI jw)))) from (by first | (simp only [abF, k2, ejw, k6, c22, c44, Bool.false_eq_true, if_false, if_true, ↓reduceIte]; done) | rfl | simp [abF, k2, ejw, k6, c22, c44])]
      rw [show (upd fb jw ((fb jw) ||| ((1 : Int32) <<< (x &&& 31)))) = (abF fb (ix (nI jw)) x) from (by first | (simp only [abF, k2, ejw, k6, c22, c44, Bool.false_eq_true, if_false, if_true, ↓reduceIte]; done) | rfl | simp [abF, k2, ejw, k6, c22, c44])]
      exact z_iretX K (by simp [cdAB, k2, ejw, k6, c22, c44]) dX2_addBeast_84 (rfl) [2] rfl (by decide) (by decide)
    · exact z_throw (cls := z_ISE) (text := "the fable has a variant") K htab rfl (by decide +kernel) (by decide +kernel) (by decide +kernel) (by decide +kernel) (by decide +kernel) z_ng2 z_gw2 t62 dX2_addBeast_47 dX2_addBeast_50 dX2_addBeast_51 dX2_addBeast_53 dX2_addBeast_56 (by simp [z_exc, cdAB, k2, ejw, k6, c22, c44]) [2] rfl (by decide) (by decide) (by decide) (by decide) (by decide) (by decide)
  · exact z_throw (cls := z_ISE) (text := "the fable has this beast") K htab rfl (by decide +kernel) (by decide +kernel) (by decide +kernel) (by decide +kernel) (by decide +kernel) z_ng2 z_gw2 t62 dX2_addBeast_25 dX2_addBeast_28 dX2_addBeast_29 dX2_addBeast_31 dX2_addBeast_34 (by simp [z_exc, cdAB, k2, ejw, k6, c22]) [2] rfl (by decide) (by decide) (by decide) (by decide) (by decide) (by decide)

set_option maxRecDepth 100000 in
set_option maxHeartbeats 4000000 in
theorem m_X2_addVariant (l : Launch) (G : Nat → Prop) (D : va_G) (cI cJ : ClassId) (aX : Nat) (w : Int32) (x : Int32) (y : Int32) (z : Int32) (aB : Nat) (aL : Nat) (aT : Nat) (se : Int32) (n : Nat) (aB0 : Nat) (aB1 : Nat) (aB2 : Nat) (aB3 : Nat) (aB4 : Nat) (aB5 : Nat) (fm : Nat → Int32) (fb : Nat → Int32) (fh : Nat → Int32) (fp : Nat → Int32) (fv : Nat → Int32) (fa : Nat → Int32) (hn : n ≤ 20) : z_MX l yX2_addVariant wsX2_addVariant { frames := 7, cells := 6, slots := 36, locals := 103 } G D [(cI, .int), (cJ, .long)] [.ref aX, .int w, .int x, .int y, .int z] [(aX, .inr (2, [.ref aB, .ref aL, .ref aT, .int se])), (aB, .inr (0, [.int (nI n), .ref aB0, .ref aB1, .ref aB2, .ref aB3, .ref aB4, .ref aB5])), (aB0, .inl (cI, 20, .inl fm)), (aB1, .inl (cI, 20, .inl fb)), (aB2, .inl (cI, 20, .inl fh)), (aB3, .inl (cI, 20, .inl fp)), (aB4, .inl (cI, 20, .inl fv)), (aB5, .inl (cI, 20, .inl fa))] (cdAV w x y z n fb = 0) (some (.int (nI n))) [(aB, .inr (0, [.int (nI (n + 1)), .ref aB0, .ref aB1, .ref aB2, .ref aB3, .ref aB4, .ref aB5])), (aB0, .inl (cI, 20, .inl (upd fm n (fm (ix w))))), (aB1, .inl (cI, 20, .inl (upd fb n (tu (tu (fb (ix w)) x) y)))), (aB2, .inl (cI, 20, .inl (upd fh n z))), (aB3, .inl (cI, 20, .inl (upd fp n w))), (aB4, .inl (cI, 20, .inl (wrV fv n w))), (aB5, .inl (cI, 20, .inl (wrA fa n w)))] (z_exc z_IOB z_ISE (cdAV w x y z n fb)) [(aB, .inr (0, [.int (nI n), .ref aB0, .ref aB1, .ref aB2, .ref aB3, .ref aB4, .ref aB5])), (aB0, .inl (cI, 20, .inl fm)), (aB1, .inl (cI, 20, .inl fb)), (aB2, .inl (cI, 20, .inl fh)), (aB3, .inl (cI, 20, .inl fp)), (aB4, .inl (cI, 20, .inl fv)), (aB5, .inl (cI, 20, .inl fa))] 6 36 := by
  have iX2 : ∀ w ∈ u_ws RX2 TX2 4, w ∈ wsX2_addVariant := fun w h => List.mem_cons_of_mem _ (List.mem_append_left _ (List.mem_append_left _ (List.mem_append_left _ (List.mem_append_right _ h))))
  have iX0 : ∀ w ∈ u_ws RX0 TX0 7, w ∈ wsX2_addVariant := fun w h => List.mem_cons_of_mem _ (List.mem_append_left _ (List.mem_append_left _ (List.mem_append_right _ h)))
  have t62 : ∀ w ∈ (vx_atS "FableIndex" 62 z_ISE ["java/lang/RuntimeException", "java/lang/Exception"]).filter goodWord, w ∈ wsX2_addVariant := fun w h => List.mem_cons_of_mem _ (List.mem_append_left _ (List.mem_append_right _ h))
  have t242 : ∀ w ∈ (vx_atS "FableIndex" 242 z_IOB ["java/lang/RuntimeException", "java/lang/Exception"]).filter goodWord, w ∈ wsX2_addVariant := fun w h => List.mem_cons_of_mem _ (List.mem_append_right _ h)
  refine z_ofWX (cc := cX2_addVariant) (nL := 6) (ret := (some .int)) (by decide) rfl (Nat.le_of_ble_eq_true rfl) [1, 2, 3, 4, 5, 6, 7] rfl (lv0 := [(0, .ref aX), (1, .int w), (2, .int x), (3, .int y), (4, .int z)]) rfl ?_
  intro p e s m args below meth c K htab
  refine z_aload_n K 0 dX2_addVariant_0 rfl ?_
  refine z_iload_n K 1 dX2_addVariant_1 rfl ?_
  refine z_callVX (ws' := [(aX, .inr (2, [.ref aB, .ref aL, .ref aT, .int se])), (aB, .inr (0, [.int (nI n), .ref aB0, .ref aB1, .ref aB2, .ref aB3, .ref aB4, .ref aB5])), (aB0, .inl (cI, 20, .inl fm)), (aB1, .inl (cI, 20, .inl fb)), (aB2, .inl (cI, 20, .inl fh)), (aB3, .inl (cI, 20, .inl fp)), (aB4, .inl (cI, 20, .inl fv)), (aB5, .inl (cI, 20, .inl fa))]) (st' := []) (rest := []) (C := RX2) (T := TX2) (N := 4) K (m_X2_needFable l G D cI cJ aX w aB aL aT se n aB0 aB1 aB2 aB3 aB4 aB5 (by omega)) gX2_addVariant_X2_needFable rfl 1 2 (by decide +kernel) rfl dX2_addVariant_2 [0, 1] 0 [] [] rfl rfl rfl ⟨by decide, by decide⟩ ⟨by decide, by decide⟩ rfl rfl rfl rfl rfl (Nat.le_of_ble_eq_true rfl) rfl rfl rfl rfl rfl rfl rfl (fun E hE => zx_out K htab rfl (by obtain ⟨rfl, h9⟩ := hE; simp [z_exc, cdAV, h9]) [1, 2, 3, 4, 5, 6, 7] rfl (by decide) (by decide)) (fun k2 => ?_)
  obtain ⟨jw, hjw, rfl⟩ := fin_ix k2 (by omega)
  have ejw : ix (nI jw) = jw := ix_nI (by omega)
  refine z_iload_n K 2 dX2_addVariant_5 rfl ?_
  refine z_callSX (ws' := [(aX, .inr (2, [.ref aB, .ref aL, .ref aT, .int se])), (aB, .inr (0, [.int (nI n), .ref aB0, .ref aB1, .ref aB2, .ref aB3, .ref aB4, .ref aB5])), (aB0, .inl (cI, 20, .inl fm)), (aB1, .inl (cI, 20, .inl fb)), (aB2, .inl (cI, 20, .inl fh)), (aB3, .inl (cI, 20, .inl fp)), (aB4, .inl (cI, 20, .inl fv)), (aB5, .inl (cI, 20, .inl fa))]) (st' := []) (rest := []) K (m_X2_needBeast l G D cI cJ x ) gX2_addVariant_X2_needBeast rfl 1 (by decide +kernel) dX2_addVariant_6 [] [] [] rfl rfl rfl ⟨by decide, by decide⟩ ⟨by decide, by decide⟩ rfl rfl rfl rfl (Nat.le_of_ble_eq_true rfl) rfl rfl rfl rfl rfl rfl rfl (fun E hE => zx_out K htab rfl (by obtain ⟨rfl, h9⟩ := hE; simp [z_exc, cdAV, k2, ejw, h9]) [1, 2, 3, 4, 5, 6, 7] rfl (by decide) (by decide)) (fun k6 => ?_)
  refine z_iload_n K 3 dX2_addVariant_9 rfl ?_
  refine z_callSX (ws' := [(aX, .inr (2, [.ref aB, .ref aL, .ref aT, .int se])), (aB, .inr (0, [.int (nI n), .ref aB0, .ref aB1, .ref aB2, .ref aB3, .ref aB4, .ref aB5])), (aB0, .inl (cI, 20, .inl fm)), (aB1, .inl (cI, 20, .inl fb)), (aB2, .inl (cI, 20, .inl fh)), (aB3, .inl (cI, 20, .inl fp)), (aB4, .inl (cI, 20, .inl fv)), (aB5, .inl (cI, 20, .inl fa))]) (st' := []) (rest := []) K (m_X2_needBeast l G D cI cJ y ) gX2_addVariant_X2_needBeast rfl 1 (by decide +kernel) dX2_addVariant_10 [] [] [] rfl rfl rfl ⟨by decide, by decide⟩ ⟨by decide, by decide⟩ rfl rfl rfl rfl (Nat.le_of_ble_eq_true rfl) rfl rfl rfl rfl rfl rfl rfl (fun E hE => zx_out K htab rfl (by obtain ⟨rfl, h9⟩ := hE; simp [z_exc, cdAV, k2, ejw, k6, h9]) [1, 2, 3, 4, 5, 6, 7] rfl (by decide) (by decide)) (fun k10 => ?_)
  refine z_iload K 4 dX2_addVariant_13 rfl ?_
  refine z_callSX (ws' := [(aX, .inr (2, [.ref aB, .ref aL, .ref aT, .int se])), (aB, .inr (0, [.int (nI n), .ref aB0, .ref aB1, .ref aB2, .ref aB3, .ref aB4, .ref aB5])), (aB0, .inl (cI, 20, .inl fm)), (aB1, .inl (cI, 20, .inl fb)), (aB2, .inl (cI, 20, .inl fh)), (aB3, .inl (cI, 20, .inl fp)), (aB4, .inl (cI, 20, .inl fv)), (aB5, .inl (cI, 20, .inl fa))]) (st' := []) (rest := []) K (m_X2_needValley l G D cI cJ z ) gX2_addVariant_X2_needValley rfl 1 (by decide +kernel) dX2_addVariant_15 [] [] [] rfl rfl rfl ⟨by decide, by decide⟩ ⟨by decide, by decide⟩ rfl rfl rfl rfl (Nat.le_of_ble_eq_true rfl) rfl rfl rfl rfl rfl rfl rfl (fun E hE => zx_out K htab rfl (by obtain ⟨rfl, h9⟩ := hE; simp [z_exc, cdAV, k2, ejw, k6, k10, h9]) [1, 2, 3, 4, 5, 6, 7] rfl (by decide) (by decide)) (fun k15 => ?_)
  obtain ⟨jz, hjz, rfl⟩ := fin_ix k15 (by omega)
  have ejz : ix (nI jz) = jz := ix_nI (by omega)
  refine z_aload_n K 0 dX2_addVariant_18 rfl ?_
  refine z_callVX (ws' := [(aX, .inr (2, [.ref aB, .ref aL, .ref aT, .int se])), (aB, .inr (0, [.int (nI n), .ref aB0, .ref aB1, .ref aB2, .ref aB3, .ref aB4, .ref aB5])), (aB0, .inl (cI, 20, .inl fm)), (aB1, .inl (cI, 20, .inl fb)), (aB2, .inl (cI, 20, .inl fh)), (aB3, .inl (cI, 20, .inl fp)), (aB4, .inl (cI, 20, .inl fv)), (aB5, .inl (cI, 20, .inl fa))]) (st' := []) (rest := []) (C := RX2) (T := TX2) (N := 4) K (m_X2_needFreePage l G D cI cJ aX aB aL aT se n aB0 aB1 aB2 aB3 aB4 aB5 (by omega)) gX2_addVariant_X2_needFreePage rfl 0 2 (by decide +kernel) rfl dX2_addVariant_19 [0, 1] 0 [] [] rfl rfl rfl ⟨by decide, by decide⟩ ⟨by decide, by decide⟩ rfl rfl rfl rfl rfl (Nat.le_of_ble_eq_true rfl) rfl rfl rfl rfl rfl rfl rfl (fun E hE => zx_out K htab rfl (by obtain ⟨rfl, h9⟩ := hE; simp [z_exc, cdAV, k2, ejw, k6, k10, k15, ejz, h9]) [1, 2, 3, 4, 5, 6, 7] rfl (by decide) (by decide)) (fun k19 => ?_)
  refine z_aload_n K 0 dX2_addVariant_22 rfl ?_
  refine z_get (C := RX2) (T := TX2) (N := 4) (ci := 2) K iX2 rfl 0 rfl 0 (by decide) (by decide +kernel) rfl rfl dX2_addVariant_23 ?_
  refine z_get (C := RX0) (T := TX0) (N := 7) (ci := 0) K iX0 rfl 1 rfl 2 (by decide) (by decide +kernel) rfl rfl dX2_addVariant_26 ?_
  refine z_iload_n K 1 dX2_addVariant_29 rfl ?_
  refine z_ialdN K 3 0 jw (by omega) (by omega) rfl rfl dX2_addVariant_30 ?_
  refine z_istore (lv' := [(5, .int (fb jw)), (0, .ref aX), (1, .int (nI jw)), (2, .int x), (3, .int y), (4, .int (nI jz))]) K dX2_addVariant_31 (by decide) rfl ?_
  refine z_iload K 0 dX2_addVariant_33 rfl ?_
  refine z_iload_n K 3 dX2_addVariant_35 rfl ?_
  refine z_callS (ws' := [(aX, .inr (2, [.ref aB, .ref aL, .ref aT, .int se])), (aB, .inr (0, [.int (nI n), .ref aB0, .ref aB1, .ref aB2, .ref aB3, .ref aB4, .ref aB5])), (aB0, .inl (cI, 20, .inl fm)), (aB1, .inl (cI, 20, .inl fb)), (aB2, .inl (cI, 20, .inl fh)), (aB3, .inl (cI, 20, .inl fp)), (aB4, .inl (cI, 20, .inl fv)), (aB5, .inl (cI, 20, .inl fa))]) (st' := [.int (z_b (hs (fb jw) x))]) (rest := []) K (m_X2_has l G D cI cJ (fb jw) x ) gX2_addVariant_X2_has rfl 2 (by decide +kernel) dX2_addVariant_36 [] [] [] rfl rfl rfl ⟨by decide, by decide⟩ ⟨by decide, by decide⟩ rfl rfl rfl rfl (Nat.le_of_ble_eq_true rfl) rfl rfl rfl rfl ?_
  refine z_if_neB K 52 dX2_addVariant_39 (by decide) (fun c39 => ?_) (fun c39 => ?_)
  · refine z_iload K 0 dX2_addVariant_52 rfl ?_
    refine z_iload_n K 4 dX2_addVariant_54 rfl ?_
    refine z_callS (ws' := [(aX, .inr (2, [.ref aB, .ref aL, .ref aT, .int se])), (aB, .inr (0, [.int (nI n), .ref aB0, .ref aB1, .ref aB2, .ref aB3, .ref aB4, .ref aB5])), (aB0, .inl (cI, 20, .inl fm)), (aB1, .inl (cI, 20, .inl fb)), (aB2, .inl (cI, 20, .inl fh)), (aB3, .inl (cI, 20, .inl fp)), (aB4, .inl (cI, 20, .inl fv)), (aB5, .inl (cI, 20, .inl fa))]) (st' := [.int (z_b (hs (fb jw) y))]) (rest := []) K (m_X2_has l G D cI cJ (fb jw) y ) gX2_addVariant_X2_has rfl 2 (by decide +kernel) dX2_addVariant_55 [] [] [] rfl rfl rfl ⟨by decide, by decide⟩ ⟨by decide, by decide⟩ rfl rfl rfl rfl (Nat.le_of_ble_eq_true rfl) rfl rfl rfl rfl ?_
    refine z_if_eqB K 71 dX2_addVariant_58 (by decide) (fun c58 => ?_) (fun c58 => ?_)
    · refine z_aload_n K 1 dX2_addVariant_71 rfl ?_
      refine z_get (C := RX2) (T := TX2) (N := 4) (ci := 2) K iX2 rfl 0 rfl 0 (by decide) (by decide +kernel) rfl rfl dX2_addVariant_72 ?_
      refine z_aload_n K 1 dX2_addVariant_75 rfl ?_
      refine z_get (C := RX2) (T := TX2) (N := 4) (ci := 2) K iX2 rfl 0 rfl 0 (by decide) (by decide +kernel) rfl rfl dX2_addVariant_76 ?_
      refine z_get (C := RX0) (T := TX0) (N := 7) (ci := 0) K iX0 rfl 1 rfl 1 (by decide) (by decide +kernel) rfl rfl dX2_addVariant_79 ?_
      refine z_iload_n K 2 dX2_addVariant_82 rfl ?_
      refine z_ialdN K 2 0 jw (by omega) (by omega) rfl rfl dX2_addVariant_83 ?_
      refine z_iload K 0 dX2_addVariant_84 rfl ?_
      refine z_iload_n K 3 dX2_addVariant_86 rfl ?_
      refine z_callS (ws' := [(aX, .inr (2, [.ref aB, .ref aL, .ref aT, .int se])), (aB, .inr (0, [.int (nI n), .ref aB0, .ref aB1, .ref aB2, .ref aB3, .ref aB4, .ref aB5])), (aB0, .inl (cI, 20, .inl fm)), (aB1, .inl (cI, 20, .inl fb)), (aB2, .inl (cI, 20, .inl fh)), (aB3, .inl (cI, 20, .inl fp)), (aB4, .inl (cI, 20, .inl fv)), (aB5, .inl (cI, 20, .inl fa))]) (st' := [.int (tu (fb jw) x), .int (fm jw), .ref aB]) (rest := [.int (fm jw), .ref aB]) K (m_X2_turned l G D cI cJ (fb jw) x ) gX2_addVariant_X2_turned rfl 2 (by decide +kernel) dX2_addVariant_87 [] [] [] rfl rfl rfl ⟨by decide, by decide⟩ ⟨by decide, by decide⟩ rfl rfl rfl rfl (Nat.le_of_ble_eq_true rfl) rfl rfl rfl rfl ?_
      refine z_iload_n K 4 dX2_addVariant_90 rfl ?_
      refine z_callS (ws' := [(aX, .inr (2, [.ref aB, .ref aL, .ref aT, .int se])), (aB, .inr (0, [.int (nI n), .ref aB0, .ref aB1, .ref aB2, .ref aB3, .ref aB4, .ref aB5])), (aB0, .inl (cI, 20, .inl fm)), (aB1, .inl (cI, 20, .inl fb)), (aB2, .inl (cI, 20, .inl fh)), (aB3, .inl (cI, 20, .inl fp)), (aB4, .inl (cI, 20, .inl fv)), (aB5, .inl (cI, 20, .inl fa))]) (st' := [.int (tu (tu (fb jw) x) y), .int (fm jw), .ref aB]) (rest := [.int (fm jw), .ref aB]) K (m_X2_turned l G D cI cJ (tu (fb jw) x) y ) gX2_addVariant_X2_turned rfl 2 (by decide +kernel) dX2_addVariant_91 [] [] [] rfl rfl rfl ⟨by decide, by decide⟩ ⟨by decide, by decide⟩ rfl rfl rfl rfl (Nat.le_of_ble_eq_true rfl) rfl rfl rfl rfl ?_
      refine z_iload K 5 dX2_addVariant_94 rfl ?_
      refine z_iload_n K 2 dX2_addVariant_96 rfl ?_
      refine z_callV (ws' := [(aX, .inr (2, [.ref aB, .ref aL, .ref aT, .int se])), (aB, .inr (0, [.int (nI (n + 1)), .ref aB0, .ref aB1, .ref aB2, .ref aB3, .ref aB4, .ref aB5])), (aB0, .inl (cI, 20, .inl (upd fm n (fm jw)))), (aB1, .inl (cI, 20, .inl (upd fb n (tu (tu (fb jw) x) y)))), (aB2, .inl (cI, 20, .inl (upd fh n (nI jz)))), (aB3, .inl (cI, 20, .inl (upd fp n (nI jw)))), (aB4, .inl (cI, 20, .inl (wrV fv n (nI jw)))), (aB5, .inl (cI, 20, .inl (wrA fa n (nI jw))))]) (st' := [.int (nI n)]) (rest := []) (C := RX0) (T := TX0) (N := 7) K (m_X0_write l G D cI cJ aB (fm jw) (tu (tu (fb jw) x) y) (nI jz) (nI jw) n aB0 aB1 aB2 aB3 aB4 aB5 fm fb fh fp fv fa (by omega) (Or.inr ⟨jw, hjw, rfl⟩)) gX2_addVariant_X0_write rfl 4 0 (by decide +kernel) rfl dX2_addVariant_97 [1, 2, 3, 4, 5, 6, 7] 1 [1, 2, 3, 4, 5, 6, 7] [0, 1, 2, 3, 4, 5, 6] rfl rfl rfl ⟨by decide, by decide⟩ ⟨by decide, by decide⟩ rfl rfl rfl rfl rfl (Nat.le_of_ble_eq_true rfl) rfl rfl rfl rfl ?_
      rw [show (upd fb n (tu (tu (fb jw) x) y)) = (upd fb n (tu (tu (fb (ix (nI jw))) x) y)) from (by first | (simp only [k2, ejw, k6, k10, k15, ejz, k19, c39, c58, Bool.false_eq_true, if_false, if_true, ↓reduceIte]; done) | rfl | simp [k2, ejw, k6, k10, k15, ejz, k19, c39, c58])]
      rw [show (upd fm n (fm jw)) = (upd fm n (fm (ix (nI jw)))) from (by first | (simp only [k2, ejw, k6, k10, k15, ejz, k19, c39, c58, Bool.false_eq_true, if_false, if_true, ↓reduceIte]; done) | rfl | simp [k2, ejw, k6, k10, k15, ejz, k19, c39, c58])]
      exact z_iretX K (by simp [cdAV, k2, ejw, k6, k10, k15, ejz, k19, c39, c58]) dX2_addVariant_100 (rfl) [1, 2, 3, 4, 5, 6, 7] rfl (by decide) (by decide)
    · exact z_throw (cls := z_ISE) (text := "the fable has the beast that comes") K htab rfl (by decide +kernel) (by decide +kernel) (by decide +kernel) (by decide +kernel) (by decide +kernel) z_ng2 z_gw2 t62 dX2_addVariant_61 dX2_addVariant_64 dX2_addVariant_65 dX2_addVariant_67 dX2_addVariant_70 (by simp [z_exc, cdAV, k2, ejw, k6, k10, k15, ejz, k19, c39, c58]) [1, 2, 3, 4, 5, 6, 7] rfl (by decide) (by decide) (by decide) (by decide) (by decide) (by decide)
  · exact z_throw (cls := z_ISE) (text := "the fable has not the beast that goes") K htab rfl (by decide +kernel) (by decide +kernel) (by decide +kernel) (by decide +kernel) (by decide +kernel) z_ng2 z_gw2 t62 dX2_addVariant_42 dX2_addVariant_45 dX2_addVariant_46 dX2_addVariant_48 dX2_addVariant_51 (by simp [z_exc, cdAV, k2, ejw, k6, k10, k15, ejz, k19, c39]) [1, 2, 3, 4, 5, 6, 7] rfl (by decide) (by decide) (by decide) (by decide) (by decide) (by decide)

set_option maxRecDepth 100000 in
set_option maxHeartbeats 4000000 in
theorem m_X2_turnPass (l : Launch) (G : Nat → Prop) (D : va_G) (cI cJ : ClassId) (aX : Nat) (w : Int32) (x : Int32) (aB : Nat) (aL : Nat) (aT : Nat) (se : Int32) (aL0 : Nat) (aL1 : Nat) (aL2 : Nat) (aL3 : Nat) (aL4 : Nat) (aL5 : Nat) (hu : Int32) (lw : Nat → Int32)  : z_MX l yX2_turnPass wsX2_turnPass { frames := 7, cells := 6, slots := 36, locals := 102 } G D [(cI, .int), (cJ, .long)] [.ref aX, .int w, .int x] [(aX, .inr (2, [.ref aB, .ref aL, .ref aT, .int se])), (aL, .inr (1, [.ref aL0, .ref aL1, .ref aL2, .ref aL3, .ref aL4, .ref aL5, .int hu])), (aL0, .inl (cI, 6, .inl lw))] (cdTP w x = 0) (some (.int (z_b (hs (turnW lw (ix w) (ix x) (ix w)) x)))) [(aL0, .inl (cI, 6, .inl (turnW lw (ix w) (ix x))))] (z_exc z_IOB z_IAE (cdTP w x)) [(aL0, .inl (cI, 6, .inl lw))] 6 36 := by
  have iX2 : ∀ w ∈ u_ws RX2 TX2 4, w ∈ wsX2_turnPass := fun w h => List.mem_cons_of_mem _ (List.mem_append_left _ (List.mem_append_left _ (List.mem_append_left _ (List.mem_append_right _ h))))
  have iX1 : ∀ w ∈ u_ws RX1 TX1 7, w ∈ wsX2_turnPass := fun w h => List.mem_cons_of_mem _ (List.mem_append_left _ (List.mem_append_left _ (List.mem_append_right _ h)))
  have t89 : ∀ w ∈ (vx_atS "FableIndex" 89 z_IAE ["java/lang/RuntimeException", "java/lang/Exception"]).filter goodWord, w ∈ wsX2_turnPass := fun w h => List.mem_cons_of_mem _ (List.mem_append_left _ (List.mem_append_right _ h))
  have t242 : ∀ w ∈ (vx_atS "FableIndex" 242 z_IOB ["java/lang/RuntimeException", "java/lang/Exception"]).filter goodWord, w ∈ wsX2_turnPass := fun w h => List.mem_cons_of_mem _ (List.mem_append_right _ h)
  refine z_ofWX (cc := cX2_turnPass) (nL := 3) (ret := (some .boolean)) (by decide) rfl (Nat.le_of_ble_eq_true rfl) [2] rfl (lv0 := [(0, .ref aX), (1, .int w), (2, .int x)]) rfl ?_
  intro p e s m args below meth c K htab
  refine z_iload_n K 1 dX2_turnPass_0 rfl ?_
  refine z_callSX (ws' := [(aX, .inr (2, [.ref aB, .ref aL, .ref aT, .int se])), (aL, .inr (1, [.ref aL0, .ref aL1, .ref aL2, .ref aL3, .ref aL4, .ref aL5, .int hu])), (aL0, .inl (cI, 6, .inl lw))]) (st' := []) (rest := []) K (m_X2_needValley l G D cI cJ w ) gX2_turnPass_X2_needValley rfl 1 (by decide +kernel) dX2_turnPass_1 [] [] [] rfl rfl rfl ⟨by decide, by decide⟩ ⟨by decide, by decide⟩ rfl rfl rfl rfl (Nat.le_of_ble_eq_true rfl) rfl rfl rfl rfl rfl rfl rfl (fun E hE => zx_out K htab rfl (by obtain ⟨rfl, h9⟩ := hE; simp [z_exc, cdTP, h9]) [2] rfl (by decide) (by decide)) (fun k1 => ?_)
  obtain ⟨jw, hjw, rfl⟩ := fin_ix k1 (by omega)
  have ejw : ix (nI jw) = jw := ix_nI (by omega)
  refine z_iload_n K 2 dX2_turnPass_4 rfl ?_
  refine z_callSX (ws' := [(aX, .inr (2, [.ref aB, .ref aL, .ref aT, .int se])), (aL, .inr (1, [.ref aL0, .ref aL1, .ref aL2, .ref aL3, .ref aL4, .ref aL5, .int hu])), (aL0, .inl (cI, 6, .inl lw))]) (st' := []) (rest := []) K (m_X2_needValley l G D cI cJ x ) gX2_turnPass_X2_needValley rfl 1 (by decide +kernel) dX2_turnPass_5 [] [] [] rfl rfl rfl ⟨by decide, by decide⟩ ⟨by decide, by decide⟩ rfl rfl rfl rfl (Nat.le_of_ble_eq_true rfl) rfl rfl rfl rfl rfl rfl rfl (fun E hE => zx_out K htab rfl (by obtain ⟨rfl, h9⟩ := hE; simp [z_exc, cdTP, k1, ejw, h9]) [2] rfl (by decide) (by decide)) (fun k5 => ?_)
  obtain ⟨jx, hjx, rfl⟩ := fin_ix k5 (by omega)
  have ejx : ix (nI jx) = jx := ix_nI (by omega)
  refine z_iload_n K 1 dX2_turnPass_8 rfl ?_
  refine z_iload_n K 2 dX2_turnPass_9 rfl ?_
  refine z_icmp_ne K 23 dX2_turnPass_10 (by decide) (fun c10 => ?_) (fun c10 => ?_)
  · refine z_aload_n K 0 dX2_turnPass_23 rfl ?_
    refine z_get (C := RX2) (T := TX2) (N := 4) (ci := 2) K iX2 rfl 0 rfl 1 (by decide) (by decide +kernel) rfl rfl dX2_turnPass_24 ?_
    refine z_iload_n K 1 dX2_turnPass_27 rfl ?_
    refine z_iload_n K 2 dX2_turnPass_28 rfl ?_
    refine z_callV (ws' := [(aX, .inr (2, [.ref aB, .ref aL, .ref aT, .int se])), (aL, .inr (1, [.ref aL0, .ref aL1, .ref aL2, .ref aL3, .ref aL4, .ref aL5, .int hu])), (aL0, .inl (cI, 6, .inl (turnW lw jw jx)))]) (st' := []) (rest := []) (C := RX1) (T := TX1) (N := 7) K (m_X1_turnWay l G D cI cJ aL jw jx aL0 aL1 aL2 aL3 aL4 aL5 hu lw (by omega) (by omega)) gX2_turnPass_X1_turnWay rfl 2 1 (by decide +kernel) rfl dX2_turnPass_29 [1, 2] 1 [2] [0] rfl rfl rfl ⟨by decide, by decide⟩ ⟨by decide, by decide⟩ rfl rfl rfl rfl rfl (Nat.le_of_ble_eq_true rfl) rfl rfl rfl rfl ?_
    refine z_aload_n K 0 dX2_turnPass_32 rfl ?_
    refine z_get (C := RX2) (T := TX2) (N := 4) (ci := 2) K iX2 rfl 0 rfl 1 (by decide) (by decide +kernel) rfl rfl dX2_turnPass_33 ?_
    refine z_get (C := RX1) (T := TX1) (N := 7) (ci := 1) K iX1 rfl 1 rfl 0 (by decide) (by decide +kernel) rfl rfl dX2_turnPass_36 ?_
    refine z_iload_n K 1 dX2_turnPass_39 rfl ?_
    refine z_ialdN K 2 0 jw (by omega) (by omega) rfl rfl dX2_turnPass_40 ?_
    refine z_iload_n K 2 dX2_turnPass_41 rfl ?_
    refine z_callS (ws' := [(aX, .inr (2, [.ref aB, .ref aL, .ref aT, .int se])), (aL, .inr (1, [.ref aL0, .ref aL1, .ref aL2, .ref aL3, .ref aL4, .ref aL5, .int hu])), (aL0, .inl (cI, 6, .inl (turnW lw jw jx)))]) (st' := [.int (z_b (hs ((turnW lw jw jx) jw) (nI jx)))]) (rest := []) K (m_X2_has l G D cI cJ ((turnW lw jw jx) jw) (nI jx) ) gX2_turnPass_X2_has rfl 2 (by decide +kernel) dX2_turnPass_42 [] [] [] rfl rfl rfl ⟨by decide, by decide⟩ ⟨by decide, by decide⟩ rfl rfl rfl rfl (Nat.le_of_ble_eq_true rfl) rfl rfl rfl rfl ?_
    rw [show (z_b (hs ((turnW lw jw jx) jw) (nI jx))) = (z_b (hs (turnW lw (ix (nI jw)) (ix (nI jx)) (ix (nI jw))) (nI jx))) from (by first | (simp only [k1, ejw, k5, ejx, c10, Bool.false_eq_true, if_false, if_true, ↓reduceIte]; done) | rfl | simp [k1, ejw, k5, ejx, c10])]
    rw [show (turnW lw jw jx) = (turnW lw (ix (nI jw)) (ix (nI jx))) from (by first | (simp only [k1, ejw, k5, ejx, c10, Bool.false_eq_true, if_false, if_true, ↓reduceIte]; done) | rfl | simp [k1, ejw, k5, ejx, c10])]
    exact z_zretX K (by simp [cdTP, k1, ejw, k5, ejx, c10]) dX2_turnPass_45 (rfl) [2] rfl (by decide) (by decide)
  · exact z_throw (cls := z_IAE) (text := "a pass lies between two valleys") K htab rfl (by decide +kernel) (by decide +kernel) (by decide +kernel) (by decide +kernel) (by decide +kernel) z_ng3 z_gw3 t89 dX2_turnPass_13 dX2_turnPass_16 dX2_turnPass_17 dX2_turnPass_19 dX2_turnPass_22 (by simp [z_exc, cdTP, k1, ejw, k5, ejx, c10]) [2] rfl (by decide) (by decide) (by decide) (by decide) (by decide) (by decide)

set_option maxRecDepth 100000 in
set_option maxHeartbeats 4000000 in
theorem m_X2_turnMoral (l : Launch) (G : Nat → Prop) (D : va_G) (cI cJ : ClassId) (aX : Nat) (w : Int32) (x : Int32) (aB : Nat) (aL : Nat) (aT : Nat) (se : Int32) (aL0 : Nat) (aL1 : Nat) (aL2 : Nat) (aL3 : Nat) (aL4 : Nat) (aL5 : Nat) (hu : Int32) (lm : Nat → Int32)  : z_MX l yX2_turnMoral wsX2_turnMoral { frames := 7, cells := 6, slots := 36, locals := 102 } G D [(cI, .int), (cJ, .long)] [.ref aX, .int w, .int x] [(aX, .inr (2, [.ref aB, .ref aL, .ref aT, .int se])), (aL, .inr (1, [.ref aL0, .ref aL1, .ref aL2, .ref aL3, .ref aL4, .ref aL5, .int hu])), (aL1, .inl (cI, 6, .inl lm))] (cd1 (fin w 6 && fin x 10) = 0) (some (.int (z_b (hs (upd lm (ix w) (tu (lm (ix w)) x) (ix w)) x)))) [(aL1, .inl (cI, 6, .inl (upd lm (ix w) (tu (lm (ix w)) x))))] (z_exc z_IOB z_ISE (cd1 (fin w 6 && fin x 10))) [(aL1, .inl (cI, 6, .inl lm))] 6 36 := by
  have iX2 : ∀ w ∈ u_ws RX2 TX2 4, w ∈ wsX2_turnMoral := fun w h => List.mem_cons_of_mem _ (List.mem_append_left _ (List.mem_append_left _ (List.mem_append_right _ h)))
  have iX1 : ∀ w ∈ u_ws RX1 TX1 7, w ∈ wsX2_turnMoral := fun w h => List.mem_cons_of_mem _ (List.mem_append_left _ (List.mem_append_right _ h))
  have t242 : ∀ w ∈ (vx_atS "FableIndex" 242 z_IOB ["java/lang/RuntimeException", "java/lang/Exception"]).filter goodWord, w ∈ wsX2_turnMoral := fun w h => List.mem_cons_of_mem _ (List.mem_append_right _ h)
  refine z_ofWX (cc := cX2_turnMoral) (nL := 3) (ret := (some .boolean)) (by decide) rfl (Nat.le_of_ble_eq_true rfl) [2] rfl (lv0 := [(0, .ref aX), (1, .int w), (2, .int x)]) rfl ?_
  intro p e s m args below meth c K htab
  refine z_iload_n K 1 dX2_turnMoral_0 rfl ?_
  refine z_callSX (ws' := [(aX, .inr (2, [.ref aB, .ref aL, .ref aT, .int se])), (aL, .inr (1, [.ref aL0, .ref aL1, .ref aL2, .ref aL3, .ref aL4, .ref aL5, .int hu])), (aL1, .inl (cI, 6, .inl lm))]) (st' := []) (rest := []) K (m_X2_needValley l G D cI cJ w ) gX2_turnMoral_X2_needValley rfl 1 (by decide +kernel) dX2_turnMoral_1 [] [] [] rfl rfl rfl ⟨by decide, by decide⟩ ⟨by decide, by decide⟩ rfl rfl rfl rfl (Nat.le_of_ble_eq_true rfl) rfl rfl rfl rfl rfl rfl rfl (fun E hE => zx_out K htab rfl (by obtain ⟨rfl, h9⟩ := hE; simp [z_exc, cd1, h9]) [2] rfl (by decide) (by decide)) (fun k1 => ?_)
  obtain ⟨jw, hjw, rfl⟩ := fin_ix k1 (by omega)
  have ejw : ix (nI jw) = jw := ix_nI (by omega)
  refine z_iload_n K 2 dX2_turnMoral_4 rfl ?_
  refine z_callSX (ws' := [(aX, .inr (2, [.ref aB, .ref aL, .ref aT, .int se])), (aL, .inr (1, [.ref aL0, .ref aL1, .ref aL2, .ref aL3, .ref aL4, .ref aL5, .int hu])), (aL1, .inl (cI, 6, .inl lm))]) (st' := []) (rest := []) K (m_X2_needMoral l G D cI cJ x ) gX2_turnMoral_X2_needMoral rfl 1 (by decide +kernel) dX2_turnMoral_5 [] [] [] rfl rfl rfl ⟨by decide, by decide⟩ ⟨by decide, by decide⟩ rfl rfl rfl rfl (Nat.le_of_ble_eq_true rfl) rfl rfl rfl rfl rfl rfl rfl (fun E hE => zx_out K htab rfl (by obtain ⟨rfl, h9⟩ := hE; simp [z_exc, cd1, k1, ejw, h9]) [2] rfl (by decide) (by decide)) (fun k5 => ?_)
  refine z_aload_n K 0 dX2_turnMoral_8 rfl ?_
  refine z_get (C := RX2) (T := TX2) (N := 4) (ci := 2) K iX2 rfl 0 rfl 1 (by decide) (by decide +kernel) rfl rfl dX2_turnMoral_9 ?_
  refine z_get (C := RX1) (T := TX1) (N := 7) (ci := 1) K iX1 rfl 1 rfl 1 (by decide) (by decide +kernel) rfl rfl dX2_turnMoral_12 ?_
  refine z_iload_n K 1 dX2_turnMoral_15 rfl ?_
  refine z_aload_n K 0 dX2_turnMoral_16 rfl ?_
  refine z_get (C := RX2) (T := TX2) (N := 4) (ci := 2) K iX2 rfl 0 rfl 1 (by decide) (by decide +kernel) rfl rfl dX2_turnMoral_17 ?_
  refine z_get (C := RX1) (T := TX1) (N := 7) (ci := 1) K iX1 rfl 1 rfl 1 (by decide) (by decide +kernel) rfl rfl dX2_turnMoral_20 ?_
  refine z_iload_n K 1 dX2_turnMoral_23 rfl ?_
  refine z_ialdN K 2 0 jw (by omega) (by omega) rfl rfl dX2_turnMoral_24 ?_
  refine z_iload_n K 2 dX2_turnMoral_25 rfl ?_
  refine z_callS (ws' := [(aX, .inr (2, [.ref aB, .ref aL, .ref aT, .int se])), (aL, .inr (1, [.ref aL0, .ref aL1, .ref aL2, .ref aL3, .ref aL4, .ref aL5, .int hu])), (aL1, .inl (cI, 6, .inl lm))]) (st' := [.int (tu (lm jw) x), .int (nI jw), .ref aL1]) (rest := [.int (nI jw), .ref aL1]) K (m_X2_turned l G D cI cJ (lm jw) x ) gX2_turnMoral_X2_turned rfl 2 (by decide +kernel) dX2_turnMoral_26 [] [] [] rfl rfl rfl ⟨by decide, by decide⟩ ⟨by decide, by decide⟩ rfl rfl rfl rfl (Nat.le_of_ble_eq_true rfl) rfl rfl rfl rfl ?_
  refine z_iastN K 2 0 jw (by omega) (by omega) rfl rfl dX2_turnMoral_29 (z_memA 0 rfl) (ws' := [(aX, .inr (2, [.ref aB, .ref aL, .ref aT, .int se])), (aL, .inr (1, [.ref aL0, .ref aL1, .ref aL2, .ref aL3, .ref aL4, .ref aL5, .int hu])), (aL1, .inl (cI, 6, .inl (upd lm jw (tu (lm jw) x))))]) rfl ?_
  refine z_aload_n K 0 dX2_turnMoral_30 rfl ?_
  refine z_get (C := RX2) (T := TX2) (N := 4) (ci := 2) K iX2 rfl 0 rfl 1 (by decide) (by decide +kernel) rfl rfl dX2_turnMoral_31 ?_
  refine z_get (C := RX1) (T := TX1) (N := 7) (ci := 1) K iX1 rfl 1 rfl 1 (by decide) (by decide +kernel) rfl rfl dX2_turnMoral_34 ?_
  refine z_iload_n K 1 dX2_turnMoral_37 rfl ?_
  refine z_ialdN K 2 0 jw (by omega) (by omega) rfl rfl dX2_turnMoral_38 ?_
  refine z_iload_n K 2 dX2_turnMoral_39 rfl ?_
  refine z_callS (ws' := [(aX, .inr (2, [.ref aB, .ref aL, .ref aT, .int se])), (aL, .inr (1, [.ref aL0, .ref aL1, .ref aL2, .ref aL3, .ref aL4, .ref aL5, .int hu])), (aL1, .inl (cI, 6, .inl (upd lm jw (tu (lm jw) x))))]) (st' := [.int (z_b (hs ((upd lm jw (tu (lm jw) x)) jw) x))]) (rest := []) K (m_X2_has l G D cI cJ ((upd lm jw (tu (lm jw) x)) jw) x ) gX2_turnMoral_X2_has rfl 2 (by decide +kernel) dX2_turnMoral_40 [] [] [] rfl rfl rfl ⟨by decide, by decide⟩ ⟨by decide, by decide⟩ rfl rfl rfl rfl (Nat.le_of_ble_eq_true rfl) rfl rfl rfl rfl ?_
  rw [show (z_b (hs ((upd lm jw (tu (lm jw) x)) jw) x)) = (z_b (hs (upd lm (ix (nI jw)) (tu (lm (ix (nI jw))) x) (ix (nI jw))) x)) from (by first | (simp only [k1, ejw, k5, Bool.false_eq_true, if_false, if_true, ↓reduceIte]; done) | rfl | simp [k1, ejw, k5])]
  rw [show (upd lm jw (tu (lm jw) x)) = (upd lm (ix (nI jw)) (tu (lm (ix (nI jw))) x)) from (by first | (simp only [k1, ejw, k5, Bool.false_eq_true, if_false, if_true, ↓reduceIte]; done) | rfl | simp [k1, ejw, k5])]
  exact z_zretX K (by simp [cd1, k1, ejw, k5]) dX2_turnMoral_43 (rfl) [2] rfl (by decide) (by decide)

set_option maxRecDepth 100000 in
set_option maxHeartbeats 4000000 in
theorem m_X2_turnBeast (l : Launch) (G : Nat → Prop) (D : va_G) (cI cJ : ClassId) (aX : Nat) (w : Int32) (x : Int32) (aB : Nat) (aL : Nat) (aT : Nat) (se : Int32) (aL0 : Nat) (aL1 : Nat) (aL2 : Nat) (aL3 : Nat) (aL4 : Nat) (aL5 : Nat) (hu : Int32) (lb : Nat → Int32)  : z_MX l yX2_turnBeast wsX2_turnBeast { frames := 7, cells := 6, slots := 36, locals := 102 } G D [(cI, .int), (cJ, .long)] [.ref aX, .int w, .int x] [(aX, .inr (2, [.ref aB, .ref aL, .ref aT, .int se])), (aL, .inr (1, [.ref aL0, .ref aL1, .ref aL2, .ref aL3, .ref aL4, .ref aL5, .int hu])), (aL2, .inl (cI, 6, .inl lb))] (cd1 (fin w 6 && fin x 12) = 0) (some (.int (z_b (hs (upd lb (ix w) (tu (lb (ix w)) x) (ix w)) x)))) [(aL2, .inl (cI, 6, .inl (upd lb (ix w) (tu (lb (ix w)) x))))] (z_exc z_IOB z_ISE (cd1 (fin w 6 && fin x 12))) [(aL2, .inl (cI, 6, .inl lb))] 6 36 := by
  have iX2 : ∀ w ∈ u_ws RX2 TX2 4, w ∈ wsX2_turnBeast := fun w h => List.mem_cons_of_mem _ (List.mem_append_left _ (List.mem_append_left _ (List.mem_append_right _ h)))
  have iX1 : ∀ w ∈ u_ws RX1 TX1 7, w ∈ wsX2_turnBeast := fun w h => List.mem_cons_of_mem _ (List.mem_append_left _ (List.mem_append_right _ h))
  have t242 : ∀ w ∈ (vx_atS "FableIndex" 242 z_IOB ["java/lang/RuntimeException", "java/lang/Exception"]).filter goodWord, w ∈ wsX2_turnBeast := fun w h => List.mem_cons_of_mem _ (List.mem_append_right _ h)
  refine z_ofWX (cc := cX2_turnBeast) (nL := 3) (ret := (some .boolean)) (by decide) rfl (Nat.le_of_ble_eq_true rfl) [2] rfl (lv0 := [(0, .ref aX), (1, .int w), (2, .int x)]) rfl ?_
  intro p e s m args below meth c K htab
  refine z_iload_n K 1 dX2_turnBeast_0 rfl ?_
  refine z_callSX (ws' := [(aX, .inr (2, [.ref aB, .ref aL, .ref aT, .int se])), (aL, .inr (1, [.ref aL0, .ref aL1, .ref aL2, .ref aL3, .ref aL4, .ref aL5, .int hu])), (aL2, .inl (cI, 6, .inl lb))]) (st' := []) (rest := []) K (m_X2_needValley l G D cI cJ w ) gX2_turnBeast_X2_needValley rfl 1 (by decide +kernel) dX2_turnBeast_1 [] [] [] rfl rfl rfl ⟨by decide, by decide⟩ ⟨by decide, by decide⟩ rfl rfl rfl rfl (Nat.le_of_ble_eq_true rfl) rfl rfl rfl rfl rfl rfl rfl (fun E hE => zx_out K htab rfl (by obtain ⟨rfl, h9⟩ := hE; simp [z_exc, cd1, h9]) [2] rfl (by decide) (by decide)) (fun k1 => ?_)
  obtain ⟨jw, hjw, rfl⟩ := fin_ix k1 (by omega)
  have ejw : ix (nI jw) = jw := ix_nI (by omega)
  refine z_iload_n K 2 dX2_turnBeast_4 rfl ?_
  refine z_callSX (ws' := [(aX, .inr (2, [.ref aB, .ref aL, .ref aT, .int se])), (aL, .inr (1, [.ref aL0, .ref aL1, .ref aL2, .ref aL3, .ref aL4, .ref aL5, .int hu])), (aL2, .inl (cI, 6, .inl lb))]) (st' := []) (rest := []) K (m_X2_needBeast l G D cI cJ x ) gX2_turnBeast_X2_needBeast rfl 1 (by decide +kernel) dX2_turnBeast_5 [] [] [] rfl rfl rfl ⟨by decide, by decide⟩ ⟨by decide, by decide⟩ rfl rfl rfl rfl (Nat.le_of_ble_eq_true rfl) rfl rfl rfl rfl rfl rfl rfl (fun E hE => zx_out K htab rfl (by obtain ⟨rfl, h9⟩ := hE; simp [z_exc, cd1, k1, ejw, h9]) [2] rfl (by decide) (by decide)) (fun k5 => ?_)
  refine z_aload_n K 0 dX2_turnBeast_8 rfl ?_
  refine z_get (C := RX2) (T := TX2) (N := 4) (ci := 2) K iX2 rfl 0 rfl 1 (by decide) (by decide +kernel) rfl rfl dX2_turnBeast_9 ?_
  refine z_get (C := RX1) (T := TX1) (N := 7) (ci := 1) K iX1 rfl 1 rfl 2 (by decide) (by decide +kernel) rfl rfl dX2_turnBeast_12 ?_
  refine z_iload_n K 1 dX2_turnBeast_15 rfl ?_
  refine z_aload_n K 0 dX2_turnBeast_16 rfl ?_
  refine z_get (C := RX2) (T := TX2) (N := 4) (ci := 2) K iX2 rfl 0 rfl 1 (by decide) (by decide +kernel) rfl rfl dX2_turnBeast_17 ?_
  refine z_get (C := RX1) (T := TX1) (N := 7) (ci := 1) K iX1 rfl 1 rfl 2 (by decide) (by decide +kernel) rfl rfl dX2_turnBeast_20 ?_
  refine z_iload_n K 1 dX2_turnBeast_23 rfl ?_
  refine z_ialdN K 2 0 jw (by omega) (by omega) rfl rfl dX2_turnBeast_24 ?_
  refine z_iload_n K 2 dX2_turnBeast_25 rfl ?_
  refine z_callS (ws' := [(aX, .inr (2, [.ref aB, .ref aL, .ref aT, .int se])), (aL, .inr (1, [.ref aL0, .ref aL1, .ref aL2, .ref aL3, .ref aL4, .ref aL5, .int hu])), (aL2, .inl (cI, 6, .inl lb))]) (st' := [.int (tu (lb jw) x), .int (nI jw), .ref aL2]) (rest := [.int (nI jw), .ref aL2]) K (m_X2_turned l G D cI cJ (lb jw) x ) gX2_turnBeast_X2_turned rfl 2 (by decide +kernel) dX2_turnBeast_26 [] [] [] rfl rfl rfl ⟨by decide, by decide⟩ ⟨by decide, by decide⟩ rfl rfl rfl rfl (Nat.le_of_ble_eq_true rfl) rfl rfl rfl rfl ?_
  refine z_iastN K 2 0 jw (by omega) (by omega) rfl rfl dX2_turnBeast_29 (z_memA 0 rfl) (ws' := [(aX, .inr (2, [.ref aB, .ref aL, .ref aT, .int se])), (aL, .inr (1, [.ref aL0, .ref aL1, .ref aL2, .ref aL3, .ref aL4, .ref aL5, .int hu])), (aL2, .inl (cI, 6, .inl (upd lb jw (tu (lb jw) x))))]) rfl ?_
  refine z_aload_n K 0 dX2_turnBeast_30 rfl ?_
  refine z_get (C := RX2) (T := TX2) (N := 4) (ci := 2) K iX2 rfl 0 rfl 1 (by decide) (by decide +kernel) rfl rfl dX2_turnBeast_31 ?_
  refine z_get (C := RX1) (T := TX1) (N := 7) (ci := 1) K iX1 rfl 1 rfl 2 (by decide) (by decide +kernel) rfl rfl dX2_turnBeast_34 ?_
  refine z_iload_n K 1 dX2_turnBeast_37 rfl ?_
  refine z_ialdN K 2 0 jw (by omega) (by omega) rfl rfl dX2_turnBeast_38 ?_
  refine z_iload_n K 2 dX2_turnBeast_39 rfl ?_
  refine z_callS (ws' := [(aX, .inr (2, [.ref aB, .ref aL, .ref aT, .int se])), (aL, .inr (1, [.ref aL0, .ref aL1, .ref aL2, .ref aL3, .ref aL4, .ref aL5, .int hu])), (aL2, .inl (cI, 6, .inl (upd lb jw (tu (lb jw) x))))]) (st' := [.int (z_b (hs ((upd lb jw (tu (lb jw) x)) jw) x))]) (rest := []) K (m_X2_has l G D cI cJ ((upd lb jw (tu (lb jw) x)) jw) x ) gX2_turnBeast_X2_has rfl 2 (by decide +kernel) dX2_turnBeast_40 [] [] [] rfl rfl rfl ⟨by decide, by decide⟩ ⟨by decide, by decide⟩ rfl rfl rfl rfl (Nat.le_of_ble_eq_true rfl) rfl rfl rfl rfl ?_
  rw [show (z_b (hs ((upd lb jw (tu (lb jw) x)) jw) x)) = (z_b (hs (upd lb (ix (nI jw)) (tu (lb (ix (nI jw))) x) (ix (nI jw))) x)) from (by first | (simp only [k1, ejw, k5, Bool.false_eq_true, if_false, if_true, ↓reduceIte]; done) | rfl | simp [k1, ejw, k5])]
  rw [show (upd lb jw (tu (lb jw) x)) = (upd lb (ix (nI jw)) (tu (lb (ix (nI jw))) x)) from (by first | (simp only [k1, ejw, k5, Bool.false_eq_true, if_false, if_true, ↓reduceIte]; done) | rfl | simp [k1, ejw, k5])]
  exact z_zretX K (by simp [cd1, k1, ejw, k5]) dX2_turnBeast_43 (rfl) [2] rfl (by decide) (by decide)

set_option maxRecDepth 100000 in
set_option maxHeartbeats 4000000 in
theorem m_X2_tell (l : Launch) (G : Nat → Prop) (D : va_G) (cI cJ : ClassId) (aX : Nat) (w : Int32) (x : Int32) (aB : Nat) (aL : Nat) (aT : Nat) (se : Int32) (n : Nat) (aB0 : Nat) (aB1 : Nat) (aB2 : Nat) (aB3 : Nat) (aB4 : Nat) (aB5 : Nat) (fm : Nat → Int32) (fb : Nat → Int32) (aL0 : Nat) (aL1 : Nat) (aL2 : Nat) (aL3 : Nat) (aL4 : Nat) (aL5 : Nat) (hu : Int32) (lm : Nat → Int32) (lb : Nat → Int32) (lt : Nat → Int32) (hn : n ≤ 20) : z_MX l yX2_tell wsX2_tell { frames := 7, cells := 6, slots := 36, locals := 103 } G D [(cI, .int), (cJ, .long)] [.ref aX, .int w, .int x] [(aX, .inr (2, [.ref aB, .ref aL, .ref aT, .int se])), (aB, .inr (0, [.int (nI n), .ref aB0, .ref aB1, .ref aB2, .ref aB3, .ref aB4, .ref aB5])), (aB0, .inl (cI, 20, .inl fm)), (aB1, .inl (cI, 20, .inl fb)), (aL, .inr (1, [.ref aL0, .ref aL1, .ref aL2, .ref aL3, .ref aL4, .ref aL5, .int hu])), (aL1, .inl (cI, 6, .inl lm)), (aL2, .inl (cI, 6, .inl lb)), (aL3, .inl (cI, 6, .inl lt))] (cdTell w x n lm lb lt fm fb = 0) (some (.int (cntS (upd lt (ix x) (lt (ix x) ||| ((1 : Int32) <<< (w &&& 31)))) ((1 : Int32) <<< (w &&& 31)) 6))) [(aL3, .inl (cI, 6, .inl (upd lt (ix x) (lt (ix x) ||| ((1 : Int32) <<< (w &&& 31))))))] (z_exc z_IOB z_ISE (cdTell w x n lm lb lt fm fb)) [(aL3, .inl (cI, 6, .inl lt))] 6 36 := by
  have iX2 : ∀ w ∈ u_ws RX2 TX2 4, w ∈ wsX2_tell := fun w h => List.mem_cons_of_mem _ (List.mem_append_left _ (List.mem_append_left _ (List.mem_append_left _ (List.mem_append_left _ (List.mem_append_right _ h)))))
  have iX1 : ∀ w ∈ u_ws RX1 TX1 7, w ∈ wsX2_tell := fun w h => List.mem_cons_of_mem _ (List.mem_append_left _ (List.mem_append_left _ (List.mem_append_left _ (List.mem_append_right _ h))))
  have iX0 : ∀ w ∈ u_ws RX0 TX0 7, w ∈ wsX2_tell := fun w h => List.mem_cons_of_mem _ (List.mem_append_left _ (List.mem_append_left _ (List.mem_append_right _ h)))
  have t62 : ∀ w ∈ (vx_atS "FableIndex" 62 z_ISE ["java/lang/RuntimeException", "java/lang/Exception"]).filter goodWord, w ∈ wsX2_tell := fun w h => List.mem_cons_of_mem _ (List.mem_append_left _ (List.mem_append_right _ h))
  have t242 : ∀ w ∈ (vx_atS "FableIndex" 242 z_IOB ["java/lang/RuntimeException", "java/lang/Exception"]).filter goodWord, w ∈ wsX2_tell := fun w h => List.mem_cons_of_mem _ (List.mem_append_right _ h)
  refine z_ofWX (cc := cX2_tell) (nL := 3) (ret := (some .int)) (by decide) rfl (Nat.le_of_ble_eq_true rfl) [7] rfl (lv0 := [(0, .ref aX), (1, .int w), (2, .int x)]) rfl ?_
  intro p e s m args below meth c K htab
  refine z_aload_n K 0 dX2_tell_0 rfl ?_
  refine z_iload_n K 1 dX2_tell_1 rfl ?_
  refine z_callVX (ws' := [(aX, .inr (2, [.ref aB, .ref aL, .ref aT, .int se])), (aB, .inr (0, [.int (nI n), .ref aB0, .ref aB1, .ref aB2, .ref aB3, .ref aB4, .ref aB5])), (aB0, .inl (cI, 20, .inl fm)), (aB1, .inl (cI, 20, .inl fb)), (aL, .inr (1, [.ref aL0, .ref aL1, .ref aL2, .ref aL3, .ref aL4, .ref aL5, .int hu])), (aL1, .inl (cI, 6, .inl lm)), (aL2, .inl (cI, 6, .inl lb)), (aL3, .inl (cI, 6, .inl lt))]) (st' := []) (rest := []) (C := RX2) (T := TX2) (N := 4) K (m_X2_needFable l G D cI cJ aX w aB aL aT se n aB0 aB1 aB2 aB3 aB4 aB5 (by omega)) gX2_tell_X2_needFable rfl 1 2 (by decide +kernel) rfl dX2_tell_2 [0, 1] 0 [] [] rfl rfl rfl ⟨by decide, by decide⟩ ⟨by decide, by decide⟩ rfl rfl rfl rfl rfl (Nat.le_of_ble_eq_true rfl) rfl rfl rfl rfl rfl rfl rfl (fun E hE => zx_out K htab rfl (by obtain ⟨rfl, h9⟩ := hE; simp [z_exc, cdTell, h9]) [7] rfl (by decide) (by decide)) (fun k2 => ?_)
  obtain ⟨jw, hjw, rfl⟩ := fin_ix k2 (by omega)
  have ejw : ix (nI jw) = jw := ix_nI (by omega)
  refine z_iload_n K 2 dX2_tell_5 rfl ?_
  refine z_callSX (ws' := [(aX, .inr (2, [.ref aB, .ref aL, .ref aT, .int se])), (aB, .inr (0, [.int (nI n), .ref aB0, .ref aB1, .ref aB2, .ref aB3, .ref aB4, .ref aB5])), (aB0, .inl (cI, 20, .inl fm)), (aB1, .inl (cI, 20, .inl fb)), (aL, .inr (1, [.ref aL0, .ref aL1, .ref aL2, .ref aL3, .ref aL4, .ref aL5, .int hu])), (aL1, .inl (cI, 6, .inl lm)), (aL2, .inl (cI, 6, .inl lb)), (aL3, .inl (cI, 6, .inl lt))]) (st' := []) (rest := []) K (m_X2_needValley l G D cI cJ x ) gX2_tell_X2_needValley rfl 1 (by decide +kernel) dX2_tell_6 [] [] [] rfl rfl rfl ⟨by decide, by decide⟩ ⟨by decide, by decide⟩ rfl rfl rfl rfl (Nat.le_of_ble_eq_true rfl) rfl rfl rfl rfl rfl rfl rfl (fun E hE => zx_out K htab rfl (by obtain ⟨rfl, h9⟩ := hE; simp [z_exc, cdTell, k2, ejw, h9]) [7] rfl (by decide) (by decide)) (fun k6 => ?_)
  obtain ⟨jx, hjx, rfl⟩ := fin_ix k6 (by omega)
  have ejx : ix (nI jx) = jx := ix_nI (by omega)
  refine z_aload_n K 0 dX2_tell_9 rfl ?_
  refine z_get (C := RX2) (T := TX2) (N := 4) (ci := 2) K iX2 rfl 0 rfl 1 (by decide) (by decide +kernel) rfl rfl dX2_tell_10 ?_
  refine z_get (C := RX1) (T := TX1) (N := 7) (ci := 1) K iX1 rfl 4 rfl 3 (by decide) (by decide +kernel) rfl rfl dX2_tell_13 ?_
  refine z_iload_n K 2 dX2_tell_16 rfl ?_
  refine z_ialdN K 7 0 jx (by omega) (by omega) rfl rfl dX2_tell_17 ?_
  refine z_iload_n K 1 dX2_tell_18 rfl ?_
  refine z_callS (ws' := [(aX, .inr (2, [.ref aB, .ref aL, .ref aT, .int se])), (aB, .inr (0, [.int (nI n), .ref aB0, .ref aB1, .ref aB2, .ref aB3, .ref aB4, .ref aB5])), (aB0, .inl (cI, 20, .inl fm)), (aB1, .inl (cI, 20, .inl fb)), (aL, .inr (1, [.ref aL0, .ref aL1, .ref aL2, .ref aL3, .ref aL4, .ref aL5, .int hu])), (aL1, .inl (cI, 6, .inl lm)), (aL2, .inl (cI, 6, .inl lb)), (aL3, .inl (cI, 6, .inl lt))]) (st' := [.int (z_b (hs (lt jx) (nI jw)))]) (rest := []) K (m_X2_has l G D cI cJ (lt jx) (nI jw) ) gX2_tell_X2_has rfl 2 (by decide +kernel) dX2_tell_19 [] [] [] rfl rfl rfl ⟨by decide, by decide⟩ ⟨by decide, by decide⟩ rfl rfl rfl rfl (Nat.le_of_ble_eq_true rfl) rfl rfl rfl rfl ?_
  refine z_if_eqB K 35 dX2_tell_22 (by decide) (fun c22 => ?_) (fun c22 => ?_)
  · refine z_aload_n K 0 dX2_tell_35 rfl ?_
    refine z_get (C := RX2) (T := TX2) (N := 4) (ci := 2) K iX2 rfl 0 rfl 1 (by decide) (by decide +kernel) rfl rfl dX2_tell_36 ?_
    refine z_aload_n K 0 dX2_tell_39 rfl ?_
    refine z_get (C := RX2) (T := TX2) (N := 4) (ci := 2) K iX2 rfl 0 rfl 0 (by decide) (by decide +kernel) rfl rfl dX2_tell_40 ?_
    refine z_iload_n K 1 dX2_tell_43 rfl ?_
    refine z_iload_n K 2 dX2_tell_44 rfl ?_
    refine z_callV (ws' := [(aX, .inr (2, [.ref aB, .ref aL, .ref aT, .int se])), (aB, .inr (0, [.int (nI n), .ref aB0, .ref aB1, .ref aB2, .ref aB3, .ref aB4, .ref aB5])), (aB0, .inl (cI, 20, .inl fm)), (aB1, .inl (cI, 20, .inl fb)), (aL, .inr (1, [.ref aL0, .ref aL1, .ref aL2, .ref aL3, .ref aL4, .ref aL5, .int hu])), (aL1, .inl (cI, 6, .inl lm)), (aL2, .inl (cI, 6, .inl lb)), (aL3, .inl (cI, 6, .inl lt))]) (st' := [.int (z_b (ban lm lb fm fb jw jx))]) (rest := []) (C := RX1) (T := TX1) (N := 7) K (m_X1_bans l G D cI cJ aL aB jw jx aL0 aL1 aL2 aL3 aL4 aL5 hu lm lb n aB0 aB1 aB2 aB3 aB4 aB5 fm fb (by omega) (by omega)) gX2_tell_X1_bans rfl 3 1 (by decide +kernel) rfl dX2_tell_45 [4, 5, 6, 1, 2, 3] 4 [] [] rfl rfl rfl ⟨by decide, by decide⟩ ⟨by decide, by decide⟩ rfl rfl rfl rfl rfl (Nat.le_of_ble_eq_true rfl) rfl rfl rfl rfl ?_
    refine z_if_eqB K 61 dX2_tell_48 (by decide) (fun c48 => ?_) (fun c48 => ?_)
    · refine z_aload_n K 0 dX2_tell_61 rfl ?_
      refine z_get (C := RX2) (T := TX2) (N := 4) (ci := 2) K iX2 rfl 0 rfl 1 (by decide) (by decide +kernel) rfl rfl dX2_tell_62 ?_
      refine z_get (C := RX1) (T := TX1) (N := 7) (ci := 1) K iX1 rfl 4 rfl 3 (by decide) (by decide +kernel) rfl rfl dX2_tell_65 ?_
      refine z_iload_n K 2 dX2_tell_68 rfl ?_
      refine z_dup2 K dX2_tell_69 rfl rfl ?_
      refine z_ialdN K 7 0 jx (by omega) (by omega) rfl rfl dX2_tell_70 ?_
      refine z_iconst (v := 1) K dX2_tell_71 (by decide) ?_
      refine z_iload_n K 1 dX2_tell_72 rfl ?_
      refine z_ishl K dX2_tell_73 ?_
      refine z_ior K dX2_tell_74 ?_
      refine z_iastN K 7 0 jx (by omega) (by omega) rfl rfl dX2_tell_75 (z_memA 0 rfl) (ws' := [(aX, .inr (2, [.ref aB, .ref aL, .ref aT, .int se])), (aB, .inr (0, [.int (nI n), .ref aB0, .ref aB1, .ref aB2, .ref aB3, .ref aB4, .ref aB5])), (aB0, .inl (cI, 20, .inl fm)), (aB1, .inl (cI, 20, .inl fb)), (aL, .inr (1, [.ref aL0, .ref aL1, .ref aL2, .ref aL3, .ref aL4, .ref aL5, .int hu])), (aL1, .inl (cI, 6, .inl lm)), (aL2, .inl (cI, 6, .inl lb)), (aL3, .inl (cI, 6, .inl (upd lt jx ((lt jx) ||| ((1 : Int32) <<< ((nI jw) &&& 31))))))]) rfl ?_
      refine z_aload_n K 0 dX2_tell_76 rfl ?_
      refine z_get (C := RX2) (T := TX2) (N := 4) (ci := 2) K iX2 rfl 0 rfl 1 (by decide) (by decide +kernel) rfl rfl dX2_tell_77 ?_
      refine z_iconst (v := 1) K dX2_tell_80 (by decide) ?_
      refine z_iload_n K 1 dX2_tell_81 rfl ?_
      refine z_ishl K dX2_tell_82 ?_
      refine z_callV (ws' := [(aX, .inr (2, [.ref aB, .ref aL, .ref aT, .int se])), (aB, .inr (0, [.int (nI n), .ref aB0, .ref aB1, .ref aB2, .ref aB3, .ref aB4, .ref aB5])), (aB0, .inl (cI, 20, .inl fm)), (aB1, .inl (cI, 20, .inl fb)), (aL, .inr (1, [.ref aL0, .ref aL1, .ref aL2, .ref aL3, .ref aL4, .ref aL5, .int hu])), (aL1, .inl (cI, 6, .inl lm)), (aL2, .inl (cI, 6, .inl lb)), (aL3, .inl (cI, 6, .inl (upd lt jx ((lt jx) ||| ((1 : Int32) <<< ((nI jw) &&& 31))))))]) (st' := [.int (cntS (upd lt jx ((lt jx) ||| ((1 : Int32) <<< ((nI jw) &&& 31)))) ((1 : Int32) <<< ((nI jw) &&& 31)) 6)]) (rest := []) (C := RX1) (T := TX1) (N := 7) K (m_X1_count l G D cI cJ aL ((1 : Int32) <<< ((nI jw) &&& 31)) aL0 aL1 aL2 aL3 aL4 aL5 hu (upd lt jx ((lt jx) ||| ((1 : Int32) <<< ((nI jw) &&& 31)))) ) gX2_tell_X1_count rfl 1 1 (by decide +kernel) rfl dX2_tell_83 [4, 7] 4 [] [] rfl rfl rfl ⟨by decide, by decide⟩ ⟨by decide, by decide⟩ rfl rfl rfl rfl rfl (Nat.le_of_ble_eq_true rfl) rfl rfl rfl rfl ?_
      rw [show (cntS (upd lt jx ((lt jx) ||| ((1 : Int32) <<< ((nI jw) &&& 31)))) ((1 : Int32) <<< ((nI jw) &&& 31)) 6) = (cntS (upd lt (ix (nI jx)) (lt (ix (nI jx)) ||| ((1 : Int32) <<< ((nI jw) &&& 31)))) ((1 : Int32) <<< ((nI jw) &&& 31)) 6) from (by first | (simp only [k2, ejw, k6, ejx, c22, c48, Bool.false_eq_true, if_false, if_true, ↓reduceIte]; done) | rfl | simp [k2, ejw, k6, ejx, c22, c48])]
      rw [show (upd lt jx ((lt jx) ||| ((1 : Int32) <<< ((nI jw) &&& 31)))) = (upd lt (ix (nI jx)) (lt (ix (nI jx)) ||| ((1 : Int32) <<< ((nI jw) &&& 31)))) from (by first | (simp only [k2, ejw, k6, ejx, c22, c48, Bool.false_eq_true, if_false, if_true, ↓reduceIte]; done) | rfl | simp [k2, ejw, k6, ejx, c22, c48])]
      exact z_iretX K (by simp [cdTell, k2, ejw, k6, ejx, c22, c48]) dX2_tell_86 (rfl) [7] rfl (by decide) (by decide)
    · exact z_throw (cls := z_ISE) (text := "the fable is banned there") K htab rfl (by decide +kernel) (by decide +kernel) (by decide +kernel) (by decide +kernel) (by decide +kernel) z_ng2 z_gw2 t62 dX2_tell_51 dX2_tell_54 dX2_tell_55 dX2_tell_57 dX2_tell_60 (by simp [z_exc, cdTell, k2, ejw, k6, ejx, c22, c48]) [7] rfl (by decide) (by decide) (by decide) (by decide) (by decide) (by decide)
  · exact z_throw (cls := z_ISE) (text := "the fable is told there") K htab rfl (by decide +kernel) (by decide +kernel) (by decide +kernel) (by decide +kernel) (by decide +kernel) z_ng2 z_gw2 t62 dX2_tell_25 dX2_tell_28 dX2_tell_29 dX2_tell_31 dX2_tell_34 (by simp [z_exc, cdTell, k2, ejw, k6, ejx, c22]) [7] rfl (by decide) (by decide) (by decide) (by decide) (by decide) (by decide)

set_option maxRecDepth 100000 in
set_option maxHeartbeats 4000000 in
theorem m_X2_forget (l : Launch) (G : Nat → Prop) (D : va_G) (cI cJ : ClassId) (aX : Nat) (w : Int32) (x : Int32) (aB : Nat) (aL : Nat) (aT : Nat) (se : Int32) (n : Nat) (aB0 : Nat) (aB1 : Nat) (aB2 : Nat) (aB3 : Nat) (aB4 : Nat) (aB5 : Nat) (aL0 : Nat) (aL1 : Nat) (aL2 : Nat) (aL3 : Nat) (aL4 : Nat) (aL5 : Nat) (hu : Int32) (lt : Nat → Int32) (hn : n ≤ 20) : z_MX l yX2_forget wsX2_forget { frames := 7, cells := 6, slots := 36, locals := 103 } G D [(cI, .int), (cJ, .long)] [.ref aX, .int w, .int x] [(aX, .inr (2, [.ref aB, .ref aL, .ref aT, .int se])), (aB, .inr (0, [.int (nI n), .ref aB0, .ref aB1, .ref aB2, .ref aB3, .ref aB4, .ref aB5])), (aL, .inr (1, [.ref aL0, .ref aL1, .ref aL2, .ref aL3, .ref aL4, .ref aL5, .int hu])), (aL3, .inl (cI, 6, .inl lt))] (cdForg w x n lt = 0) (some (.int (cntS (upd lt (ix x) (tu (lt (ix x)) w)) ((1 : Int32) <<< (w &&& 31)) 6))) [(aL3, .inl (cI, 6, .inl (upd lt (ix x) (tu (lt (ix x)) w))))] (z_exc z_IOB z_ISE (cdForg w x n lt)) [(aL3, .inl (cI, 6, .inl lt))] 6 36 := by
  have iX2 : ∀ w ∈ u_ws RX2 TX2 4, w ∈ wsX2_forget := fun w h => List.mem_cons_of_mem _ (List.mem_append_left _ (List.mem_append_left _ (List.mem_append_left _ (List.mem_append_left _ (List.mem_append_right _ h)))))
  have iX1 : ∀ w ∈ u_ws RX1 TX1 7, w ∈ wsX2_forget := fun w h => List.mem_cons_of_mem _ (List.mem_append_left _ (List.mem_append_left _ (List.mem_append_left _ (List.mem_append_right _ h))))
  have iX0 : ∀ w ∈ u_ws RX0 TX0 7, w ∈ wsX2_forget := fun w h => List.mem_cons_of_mem _ (List.mem_append_left _ (List.mem_append_left _ (List.mem_append_right _ h)))
  have t62 : ∀ w ∈ (vx_atS "FableIndex" 62 z_ISE ["java/lang/RuntimeException", "java/lang/Exception"]).filter goodWord, w ∈ wsX2_forget := fun w h => List.mem_cons_of_mem _ (List.mem_append_left _ (List.mem_append_right _ h))
  have t242 : ∀ w ∈ (vx_atS "FableIndex" 242 z_IOB ["java/lang/RuntimeException", "java/lang/Exception"]).filter goodWord, w ∈ wsX2_forget := fun w h => List.mem_cons_of_mem _ (List.mem_append_right _ h)
  refine z_ofWX (cc := cX2_forget) (nL := 3) (ret := (some .int)) (by decide) rfl (Nat.le_of_ble_eq_true rfl) [3] rfl (lv0 := [(0, .ref aX), (1, .int w), (2, .int x)]) rfl ?_
  intro p e s m args below meth c K htab
  refine z_aload_n K 0 dX2_forget_0 rfl ?_
  refine z_iload_n K 1 dX2_forget_1 rfl ?_
  refine z_callVX (ws' := [(aX, .inr (2, [.ref aB, .ref aL, .ref aT, .int se])), (aB, .inr (0, [.int (nI n), .ref aB0, .ref aB1, .ref aB2, .ref aB3, .ref aB4, .ref aB5])), (aL, .inr (1, [.ref aL0, .ref aL1, .ref aL2, .ref aL3, .ref aL4, .ref aL5, .int hu])), (aL3, .inl (cI, 6, .inl lt))]) (st' := []) (rest := []) (C := RX2) (T := TX2) (N := 4) K (m_X2_needFable l G D cI cJ aX w aB aL aT se n aB0 aB1 aB2 aB3 aB4 aB5 (by omega)) gX2_forget_X2_needFable rfl 1 2 (by decide +kernel) rfl dX2_forget_2 [0, 1] 0 [] [] rfl rfl rfl ⟨by decide, by decide⟩ ⟨by decide, by decide⟩ rfl rfl rfl rfl rfl (Nat.le_of_ble_eq_true rfl) rfl rfl rfl rfl rfl rfl rfl (fun E hE => zx_out K htab rfl (by obtain ⟨rfl, h9⟩ := hE; simp [z_exc, cdForg, h9]) [3] rfl (by decide) (by decide)) (fun k2 => ?_)
  obtain ⟨jw, hjw, rfl⟩ := fin_ix k2 (by omega)
  have ejw : ix (nI jw) = jw := ix_nI (by omega)
  refine z_iload_n K 2 dX2_forget_5 rfl ?_
  refine z_callSX (ws' := [(aX, .inr (2, [.ref aB, .ref aL, .ref aT, .int se])), (aB, .inr (0, [.int (nI n), .ref aB0, .ref aB1, .ref aB2, .ref aB3, .ref aB4, .ref aB5])), (aL, .inr (1, [.ref aL0, .ref aL1, .ref aL2, .ref aL3, .ref aL4, .ref aL5, .int hu])), (aL3, .inl (cI, 6, .inl lt))]) (st' := []) (rest := []) K (m_X2_needValley l G D cI cJ x ) gX2_forget_X2_needValley rfl 1 (by decide +kernel) dX2_forget_6 [] [] [] rfl rfl rfl ⟨by decide, by decide⟩ ⟨by decide, by decide⟩ rfl rfl rfl rfl (Nat.le_of_ble_eq_true rfl) rfl rfl rfl rfl rfl rfl rfl (fun E hE => zx_out K htab rfl (by obtain ⟨rfl, h9⟩ := hE; simp [z_exc, cdForg, k2, ejw, h9]) [3] rfl (by decide) (by decide)) (fun k6 => ?_)
  obtain ⟨jx, hjx, rfl⟩ := fin_ix k6 (by omega)
  have ejx : ix (nI jx) = jx := ix_nI (by omega)
  refine z_aload_n K 0 dX2_forget_9 rfl ?_
  refine z_get (C := RX2) (T := TX2) (N := 4) (ci := 2) K iX2 rfl 0 rfl 1 (by decide) (by decide +kernel) rfl rfl dX2_forget_10 ?_
  refine z_get (C := RX1) (T := TX1) (N := 7) (ci := 1) K iX1 rfl 2 rfl 3 (by decide) (by decide +kernel) rfl rfl dX2_forget_13 ?_
  refine z_iload_n K 2 dX2_forget_16 rfl ?_
  refine z_ialdN K 3 0 jx (by omega) (by omega) rfl rfl dX2_forget_17 ?_
  refine z_iload_n K 1 dX2_forget_18 rfl ?_
  refine z_callS (ws' := [(aX, .inr (2, [.ref aB, .ref aL, .ref aT, .int se])), (aB, .inr (0, [.int (nI n), .ref aB0, .ref aB1, .ref aB2, .ref aB3, .ref aB4, .ref aB5])), (aL, .inr (1, [.ref aL0, .ref aL1, .ref aL2, .ref aL3, .ref aL4, .ref aL5, .int hu])), (aL3, .inl (cI, 6, .inl lt))]) (st' := [.int (z_b (hs (lt jx) (nI jw)))]) (rest := []) K (m_X2_has l G D cI cJ (lt jx) (nI jw) ) gX2_forget_X2_has rfl 2 (by decide +kernel) dX2_forget_19 [] [] [] rfl rfl rfl ⟨by decide, by decide⟩ ⟨by decide, by decide⟩ rfl rfl rfl rfl (Nat.le_of_ble_eq_true rfl) rfl rfl rfl rfl ?_
  refine z_if_neB K 35 dX2_forget_22 (by decide) (fun c22 => ?_) (fun c22 => ?_)
  · refine z_aload_n K 0 dX2_forget_35 rfl ?_
    refine z_get (C := RX2) (T := TX2) (N := 4) (ci := 2) K iX2 rfl 0 rfl 1 (by decide) (by decide +kernel) rfl rfl dX2_forget_36 ?_
    refine z_get (C := RX1) (T := TX1) (N := 7) (ci := 1) K iX1 rfl 2 rfl 3 (by decide) (by decide +kernel) rfl rfl dX2_forget_39 ?_
    refine z_iload_n K 2 dX2_forget_42 rfl ?_
    refine z_aload_n K 0 dX2_forget_43 rfl ?_
    refine z_get (C := RX2) (T := TX2) (N := 4) (ci := 2) K iX2 rfl 0 rfl 1 (by decide) (by decide +kernel) rfl rfl dX2_forget_44 ?_
    refine z_get (C := RX1) (T := TX1) (N := 7) (ci := 1) K iX1 rfl 2 rfl 3 (by decide) (by decide +kernel) rfl rfl dX2_forget_47 ?_
    refine z_iload_n K 2 dX2_forget_50 rfl ?_
    refine z_ialdN K 3 0 jx (by omega) (by omega) rfl rfl dX2_forget_51 ?_
    refine z_iload_n K 1 dX2_forget_52 rfl ?_
    refine z_callS (ws' := [(aX, .inr (2, [.ref aB, .ref aL, .ref aT, .int se])), (aB, .inr (0, [.int (nI n), .ref aB0, .ref aB1, .ref aB2, .ref aB3, .ref aB4, .ref aB5])), (aL, .inr (1, [.ref aL0, .ref aL1, .ref aL2, .ref aL3, .ref aL4, .ref aL5, .int hu])), (aL3, .inl (cI, 6, .inl lt))]) (st' := [.int (tu (lt jx) (nI jw)), .int (nI jx), .ref aL3]) (rest := [.int (nI jx), .ref aL3]) K (m_X2_turned l G D cI cJ (lt jx) (nI jw) ) gX2_forget_X2_turned rfl 2 (by decide +kernel) dX2_forget_53 [] [] [] rfl rfl rfl ⟨by decide, by decide⟩ ⟨by decide, by decide⟩ rfl rfl rfl rfl (Nat.le_of_ble_eq_true rfl) rfl rfl rfl rfl ?_
    refine z_iastN K 3 0 jx (by omega) (by omega) rfl rfl dX2_forget_56 (z_memA 0 rfl) (ws' := [(aX, .inr (2, [.ref aB, .ref aL, .ref aT, .int se])), (aB, .inr (0, [.int (nI n), .ref aB0, .ref aB1, .ref aB2, .ref aB3, .ref aB4, .ref aB5])), (aL, .inr (1, [.ref aL0, .ref aL1, .ref aL2, .ref aL3, .ref aL4, .ref aL5, .int hu])), (aL3, .inl (cI, 6, .inl (upd lt jx (tu (lt jx) (nI jw)))))]) rfl ?_
    refine z_aload_n K 0 dX2_forget_57 rfl ?_
    refine z_get (C := RX2) (T := TX2) (N := 4) (ci := 2) K iX2 rfl 0 rfl 1 (by decide) (by decide +kernel) rfl rfl dX2_forget_58 ?_
    refine z_iconst (v := 1) K dX2_forget_61 (by decide) ?_
    refine z_iload_n K 1 dX2_forget_62 rfl ?_
    refine z_ishl K dX2_forget_63 ?_
    refine z_callV (ws' := [(aX, .inr (2, [.ref aB, .ref aL, .ref aT, .int se])), (aB, .inr (0, [.int (nI n), .ref aB0, .ref aB1, .ref aB2, .ref aB3, .ref aB4, .ref aB5])), (aL, .inr (1, [.ref aL0, .ref aL1, .ref aL2, .ref aL3, .ref aL4, .ref aL5, .int hu])), (aL3, .inl (cI, 6, .inl (upd lt jx (tu (lt jx) (nI jw)))))]) (st' := [.int (cntS (upd lt jx (tu (lt jx) (nI jw))) ((1 : Int32) <<< ((nI jw) &&& 31)) 6)]) (rest := []) (C := RX1) (T := TX1) (N := 7) K (m_X1_count l G D cI cJ aL ((1 : Int32) <<< ((nI jw) &&& 31)) aL0 aL1 aL2 aL3 aL4 aL5 hu (upd lt jx (tu (lt jx) (nI jw))) ) gX2_forget_X1_count rfl 1 1 (by decide +kernel) rfl dX2_forget_64 [2, 3] 2 [] [] rfl rfl rfl ⟨by decide, by decide⟩ ⟨by decide, by decide⟩ rfl rfl rfl rfl rfl (Nat.le_of_ble_eq_true rfl) rfl rfl rfl rfl ?_
    rw [show (cntS (upd lt jx (tu (lt jx) (nI jw))) ((1 : Int32) <<< ((nI jw) &&& 31)) 6) = (cntS (upd lt (ix (nI jx)) (tu (lt (ix (nI jx))) (nI jw))) ((1 : Int32) <<< ((nI jw) &&& 31)) 6) from (by first | (simp only [k2, ejw, k6, ejx, c22, Bool.false_eq_true, if_false, if_true, ↓reduceIte]; done) | rfl | simp [k2, ejw, k6, ejx, c22])]
    rw [show (upd lt jx (tu (lt jx) (nI jw))) = (upd lt (ix (nI jx)) (tu (lt (ix (nI jx))) (nI jw))) from (by first | (simp only [k2, ejw, k6, ejx, c22, Bool.false_eq_true, if_false, if_true, ↓reduceIte]; done) | rfl | simp [k2, ejw, k6, ejx, c22])]
    exact z_iretX K (by simp [cdForg, k2, ejw, k6, ejx, c22]) dX2_forget_67 (rfl) [3] rfl (by decide) (by decide)
  · exact z_throw (cls := z_ISE) (text := "the fable is not told there") K htab rfl (by decide +kernel) (by decide +kernel) (by decide +kernel) (by decide +kernel) (by decide +kernel) z_ng2 z_gw2 t62 dX2_forget_25 dX2_forget_28 dX2_forget_29 dX2_forget_31 dX2_forget_34 (by simp [z_exc, cdForg, k2, ejw, k6, ejx, c22]) [3] rfl (by decide) (by decide) (by decide) (by decide) (by decide) (by decide)

set_option maxRecDepth 100000 in
set_option maxHeartbeats 4000000 in
theorem m_X2_passSeasons (l : Launch) (G : Nat → Prop) (D : va_G) (cI cJ : ClassId) (aX : Nat) (w : Int32) (aB : Nat) (aL : Nat) (aT : Nat) (se : Int32) (n : Nat) (aB0 : Nat) (aB1 : Nat) (aB2 : Nat) (aB3 : Nat) (aB4 : Nat) (aB5 : Nat) (fm : Nat → Int32) (fb : Nat → Int32) (fv : Nat → Int32) (aL0 : Nat) (aL1 : Nat) (aL2 : Nat) (aL3 : Nat) (aL4 : Nat) (aL5 : Nat) (hu : Int32) (lw : Nat → Int32) (lm : Nat → Int32) (lb : Nat → Int32) (lt : Nat → Int32) (la : Nat → Int32) (lk : Nat → Int32) (hn : n ≤ 20) : z_MX l yX2_passSeasons wsX2_passSeasons { frames := 7, cells := 6, slots := 36, locals := 103 } G D [(cI, .int), (cJ, .long)] [.ref aX, .int w] [(aX, .inr (2, [.ref aB, .ref aL, .ref aT, .int se])), (aB, .inr (0, [.int (nI n), .ref aB0, .ref aB1, .ref aB2, .ref aB3, .ref aB4, .ref aB5])), (aB0, .inl (cI, 20, .inl fm)), (aB1, .inl (cI, 20, .inl fb)), (aB4, .inl (cI, 20, .inl fv)), (aL, .inr (1, [.ref aL0, .ref aL1, .ref aL2, .ref aL3, .ref aL4, .ref aL5, .int hu])), (aL0, .inl (cI, 6, .inl lw)), (aL1, .inl (cI, 6, .inl lm)), (aL2, .inl (cI, 6, .inl lb)), (aL3, .inl (cI, 6, .inl lt)), (aL4, .inl (cI, 6, .inl la)), (aL5, .inl (cI, 6, .inl lk))] (cd1 (sea w 40) = 0) (some (.int (cntS (livS lw lm (alS lm lb fm fb n la 6) fm fv n lt lk hu (ix w)).1 (allS n) 6))) [(aX, .inr (2, [.ref aB, .ref aL, .ref aT, .int (se + w)])), (aL, .inr (1, [.ref aL0, .ref aL1, .ref aL2, .ref aL3, .ref aL4, .ref aL5, .int ((livS lw lm (alS lm lb fm fb n la 6) fm fv n lt lk hu (ix w)).2.2.1)])), (aL3, .inl (cI, 6, .inl ((livS lw lm (alS lm lb fm fb n la 6) fm fv n lt lk hu (ix w)).1))), (aL4, .inl (cI, 6, .inl (alS lm lb fm fb n la 6))), (aL5, .inl (cI, 6, .inl ((livS lw lm (alS lm lb fm fb n la 6) fm fv n lt lk hu (ix w)).2.1)))] (z_exc z_IAE z_ISE (cd1 (sea w 40))) [(aX, .inr (2, [.ref aB, .ref aL, .ref aT, .int se])), (aL, .inr (1, [.ref aL0, .ref aL1, .ref aL2, .ref aL3, .ref aL4, .ref aL5, .int hu])), (aL3, .inl (cI, 6, .inl lt)), (aL4, .inl (cI, 6, .inl la)), (aL5, .inl (cI, 6, .inl lk))] 6 36 := by
  have iX2 : ∀ w ∈ u_ws RX2 TX2 4, w ∈ wsX2_passSeasons := fun w h => List.mem_cons_of_mem _ (List.mem_append_left _ (List.mem_append_left _ (List.mem_append_left _ (List.mem_append_right _ h))))
  have iX1 : ∀ w ∈ u_ws RX1 TX1 7, w ∈ wsX2_passSeasons := fun w h => List.mem_cons_of_mem _ (List.mem_append_left _ (List.mem_append_left _ (List.mem_append_right _ h)))
  have iX0 : ∀ w ∈ u_ws RX0 TX0 7, w ∈ wsX2_passSeasons := fun w h => List.mem_cons_of_mem _ (List.mem_append_left _ (List.mem_append_right _ h))
  have t89 : ∀ w ∈ (vx_atS "FableIndex" 89 z_IAE ["java/lang/RuntimeException", "java/lang/Exception"]).filter goodWord, w ∈ wsX2_passSeasons := fun w h => List.mem_cons_of_mem _ (List.mem_append_right _ h)
  refine z_ofWX (cc := cX2_passSeasons) (nL := 2) (ret := (some .int)) (by decide) rfl (Nat.le_of_ble_eq_true rfl) [0, 5, 9, 10, 11] rfl (lv0 := [(0, .ref aX), (1, .int w)]) rfl ?_
  intro p e s m args below meth c K htab
  refine z_iload_n K 1 dX2_passSeasons_0 rfl ?_
  refine z_bipush (v := 40) K dX2_passSeasons_1 (by decide) ?_
  refine z_callSX (ws' := [(aX, .inr (2, [.ref aB, .ref aL, .ref aT, .int se])), (aB, .inr (0, [.int (nI n), .ref aB0, .ref aB1, .ref aB2, .ref aB3, .ref aB4, .ref aB5])), (aB0, .inl (cI, 20, .inl fm)), (aB1, .inl (cI, 20, .inl fb)), (aB4, .inl (cI, 20, .inl fv)), (aL, .inr (1, [.ref aL0, .ref aL1, .ref aL2, .ref aL3, .ref aL4, .ref aL5, .int hu])), (aL0, .inl (cI, 6, .inl lw)), (aL1, .inl (cI, 6, .inl lm)), (aL2, .inl (cI, 6, .inl lb)), (aL3, .inl (cI, 6, .inl lt)), (aL4, .inl (cI, 6, .inl la)), (aL5, .inl (cI, 6, .inl lk))]) (st' := []) (rest := []) K (m_X2_needSeasons l G D cI cJ w 40 ) gX2_passSeasons_X2_needSeasons rfl 2 (by decide +kernel) dX2_passSeasons_3 [] [] [] rfl rfl rfl ⟨by decide, by decide⟩ ⟨by decide, by decide⟩ rfl rfl rfl rfl (Nat.le_of_ble_eq_true rfl) rfl rfl rfl rfl rfl rfl rfl (fun E hE => zx_out K htab rfl (by obtain ⟨rfl, h9⟩ := hE; simp [z_exc, cd1, h9]) [0, 5, 9, 10, 11] rfl (by decide) (by decide)) (fun k3 => ?_)
  obtain ⟨qw, hqw, hrw, rfl⟩ := sea_ix (m := 40) k3 rfl (by omega)
  have eqw : ix (nI qw) = qw := ix_nI (by omega)
  refine z_aload_n K 0 dX2_passSeasons_6 rfl ?_
  refine z_get (C := RX2) (T := TX2) (N := 4) (ci := 2) K iX2 rfl 0 rfl 1 (by decide) (by decide +kernel) rfl rfl dX2_passSeasons_7 ?_
  refine z_aload_n K 0 dX2_passSeasons_10 rfl ?_
  refine z_get (C := RX2) (T := TX2) (N := 4) (ci := 2) K iX2 rfl 0 rfl 0 (by decide) (by decide +kernel) rfl rfl dX2_passSeasons_11 ?_
  refine z_iload_n K 1 dX2_passSeasons_14 rfl ?_
  refine z_callV (ws' := [(aX, .inr (2, [.ref aB, .ref aL, .ref aT, .int se])), (aB, .inr (0, [.int (nI n), .ref aB0, .ref aB1, .ref aB2, .ref aB3, .ref aB4, .ref aB5])), (aB0, .inl (cI, 20, .inl fm)), (aB1, .inl (cI, 20, .inl fb)), (aB4, .inl (cI, 20, .inl fv)), (aL, .inr (1, [.ref aL0, .ref aL1, .ref aL2, .ref aL3, .ref aL4, .ref aL5, .int ((livS lw lm (alS lm lb fm fb n la 6) fm fv n lt lk hu qw).2.2.1)])), (aL0, .inl (cI, 6, .inl lw)), (aL1, .inl (cI, 6, .inl lm)), (aL2, .inl (cI, 6, .inl lb)), (aL3, .inl (cI, 6, .inl ((livS lw lm (alS lm lb fm fb n la 6) fm fv n lt lk hu qw).1))), (aL4, .inl (cI, 6, .inl (alS lm lb fm fb n la 6))), (aL5, .inl (cI, 6, .inl ((livS lw lm (alS lm lb fm fb n la 6) fm fv n lt lk hu qw).2.1)))]) (st' := []) (rest := []) (C := RX1) (T := TX1) (N := 7) K (m_X1_live l G D cI cJ aL aB qw aL0 aL1 aL2 aL3 aL4 aL5 hu lw lm lb lt la lk n aB0 aB1 aB2 aB3 aB4 aB5 fm fb fv (by omega) (by omega)) gX2_passSeasons_X1_live rfl 2 1 (by decide +kernel) rfl dX2_passSeasons_15 [5, 6, 7, 8, 9, 10, 11, 1, 2, 3, 4] 5 [5, 9, 10, 11] [1, 2, 3, 4] rfl rfl rfl ⟨by decide, by decide⟩ ⟨by decide, by decide⟩ rfl rfl rfl rfl rfl (Nat.le_of_ble_eq_true rfl) rfl rfl rfl rfl ?_
  refine z_aload_n K 0 dX2_passSeasons_18 rfl ?_
  refine z_dup K dX2_passSeasons_19 rfl ?_
  refine z_get (C := RX2) (T := TX2) (N := 4) (ci := 2) K iX2 rfl 0 rfl 3 (by decide) (by decide +kernel) rfl rfl dX2_passSeasons_20 ?_
  refine z_iload_n K 1 dX2_passSeasons_23 rfl ?_
  refine z_iadd K dX2_passSeasons_24 ?_
  refine z_put (C := RX2) (T := TX2) (N := 4) (ci := 2) K iX2 rfl tyX2 tyX2_ok nmX2 0 rfl 3 (by decide) (by decide +kernel) rfl rfl rfl rfl (Nat.le_of_ble_eq_true rfl) (z_memA 0 rfl) (ws' := [(aX, .inr (2, [.ref aB, .ref aL, .ref aT, .int (se + (nI qw))])), (aB, .inr (0, [.int (nI n), .ref aB0, .ref aB1, .ref aB2, .ref aB3, .ref aB4, .ref aB5])), (aB0, .inl (cI, 20, .inl fm)), (aB1, .inl (cI, 20, .inl fb)), (aB4, .inl (cI, 20, .inl fv)), (aL, .inr (1, [.ref aL0, .ref aL1, .ref aL2, .ref aL3, .ref aL4, .ref aL5, .int ((livS lw lm (alS lm lb fm fb n la 6) fm fv n lt lk hu qw).2.2.1)])), (aL0, .inl (cI, 6, .inl lw)), (aL1, .inl (cI, 6, .inl lm)), (aL2, .inl (cI, 6, .inl lb)), (aL3, .inl (cI, 6, .inl ((livS lw lm (alS lm lb fm fb n la 6) fm fv n lt lk hu qw).1))), (aL4, .inl (cI, 6, .inl (alS lm lb fm fb n la 6))), (aL5, .inl (cI, 6, .inl ((livS lw lm (alS lm lb fm fb n la 6) fm fv n lt lk hu qw).2.1)))]) rfl dX2_passSeasons_25 ?_
  refine z_aload_n K 0 dX2_passSeasons_28 rfl ?_
  refine z_get (C := RX2) (T := TX2) (N := 4) (ci := 2) K iX2 rfl 0 rfl 1 (by decide) (by decide +kernel) rfl rfl dX2_passSeasons_29 ?_
  refine z_aload_n K 0 dX2_passSeasons_32 rfl ?_
  refine z_get (C := RX2) (T := TX2) (N := 4) (ci := 2) K iX2 rfl 0 rfl 0 (by decide) (by decide +kernel) rfl rfl dX2_passSeasons_33 ?_
  refine z_callV (ws' := [(aX, .inr (2, [.ref aB, .ref aL, .ref aT, .int (se + (nI qw))])), (aB, .inr (0, [.int (nI n), .ref aB0, .ref aB1, .ref aB2, .ref aB3, .ref aB4, .ref aB5])), (aB0, .inl (cI, 20, .inl fm)), (aB1, .inl (cI, 20, .inl fb)), (aB4, .inl (cI, 20, .inl fv)), (aL, .inr (1, [.ref aL0, .ref aL1, .ref aL2, .ref aL3, .ref aL4, .ref aL5, .int ((livS lw lm (alS lm lb fm fb n la 6) fm fv n lt lk hu qw).2.2.1)])), (aL0, .inl (cI, 6, .inl lw)), (aL1, .inl (cI, 6, .inl lm)), (aL2, .inl (cI, 6, .inl lb)), (aL3, .inl (cI, 6, .inl ((livS lw lm (alS lm lb fm fb n la 6) fm fv n lt lk hu qw).1))), (aL4, .inl (cI, 6, .inl (alS lm lb fm fb n la 6))), (aL5, .inl (cI, 6, .inl ((livS lw lm (alS lm lb fm fb n la 6) fm fv n lt lk hu qw).2.1)))]) (st' := [.int (allS n), .ref aL]) (rest := [.ref aL]) (C := RX0) (T := TX0) (N := 7) K (m_X0_all l G D cI cJ aB n aB0 aB1 aB2 aB3 aB4 aB5 ) gX2_passSeasons_X0_all rfl 0 0 (by decide +kernel) rfl dX2_passSeasons_36 [1] 1 [] [] rfl rfl rfl ⟨by decide, by decide⟩ ⟨by decide, by decide⟩ rfl rfl rfl rfl rfl (Nat.le_of_ble_eq_true rfl) rfl rfl rfl rfl ?_
  refine z_callV (ws' := [(aX, .inr (2, [.ref aB, .ref aL, .ref aT, .int (se + (nI qw))])), (aB, .inr (0, [.int (nI n), .ref aB0, .ref aB1, .ref aB2, .ref aB3, .ref aB4, .ref aB5])), (aB0, .inl (cI, 20, .inl fm)), (aB1, .inl (cI, 20, .inl fb)), (aB4, .inl (cI, 20, .inl fv)), (aL, .inr (1, [.ref aL0, .ref aL1, .ref aL2, .ref aL3, .ref aL4, .ref aL5, .int ((livS lw lm (alS lm lb fm fb n la 6) fm fv n lt lk hu qw).2.2.1)])), (aL0, .inl (cI, 6, .inl lw)), (aL1, .inl (cI, 6, .inl lm)), (aL2, .inl (cI, 6, .inl lb)), (aL3, .inl (cI, 6, .inl ((livS lw lm (alS lm lb fm fb n la 6) fm fv n lt lk hu qw).1))), (aL4, .inl (cI, 6, .inl (alS lm lb fm fb n la 6))), (aL5, .inl (cI, 6, .inl ((livS lw lm (alS lm lb fm fb n la 6) fm fv n lt lk hu qw).2.1)))]) (st' := [.int (cntS ((livS lw lm (alS lm lb fm fb n la 6) fm fv n lt lk hu qw).1) (allS n) 6)]) (rest := []) (C := RX1) (T := TX1) (N := 7) K (m_X1_count l G D cI cJ aL (allS n) aL0 aL1 aL2 aL3 aL4 aL5 ((livS lw lm (alS lm lb fm fb n la 6) fm fv n lt lk hu qw).2.2.1) ((livS lw lm (alS lm lb fm fb n la 6) fm fv n lt lk hu qw).1) ) gX2_passSeasons_X1_count rfl 1 1 (by decide +kernel) rfl dX2_passSeasons_39 [5, 9] 5 [] [] rfl rfl rfl ⟨by decide, by decide⟩ ⟨by decide, by decide⟩ rfl rfl rfl rfl rfl (Nat.le_of_ble_eq_true rfl) rfl rfl rfl rfl ?_
  rw [show (cntS ((livS lw lm (alS lm lb fm fb n la 6) fm fv n lt lk hu qw).1) (allS n) 6) = (cntS (livS lw lm (alS lm lb fm fb n la 6) fm fv n lt lk hu (ix (nI qw))).1 (allS n) 6) from (by first | (simp only [k3, eqw, Bool.false_eq_true, if_false, if_true, ↓reduceIte]; done) | rfl | simp [k3, eqw])]
  rw [show ((livS lw lm (alS lm lb fm fb n la 6) fm fv n lt lk hu qw).2.2.1) = ((livS lw lm (alS lm lb fm fb n la 6) fm fv n lt lk hu (ix (nI qw))).2.2.1) from (by first | (simp only [k3, eqw, Bool.false_eq_true, if_false, if_true, ↓reduceIte]; done) | rfl | simp [k3, eqw])]
  rw [show ((livS lw lm (alS lm lb fm fb n la 6) fm fv n lt lk hu qw).2.1) = ((livS lw lm (alS lm lb fm fb n la 6) fm fv n lt lk hu (ix (nI qw))).2.1) from (by first | (simp only [k3, eqw, Bool.false_eq_true, if_false, if_true, ↓reduceIte]; done) | rfl | simp [k3, eqw])]
  rw [show ((livS lw lm (alS lm lb fm fb n la 6) fm fv n lt lk hu qw).1) = ((livS lw lm (alS lm lb fm fb n la 6) fm fv n lt lk hu (ix (nI qw))).1) from (by first | (simp only [k3, eqw, Bool.false_eq_true, if_false, if_true, ↓reduceIte]; done) | rfl | simp [k3, eqw])]
  exact z_iretX K (by simp [cd1, k3, eqw]) dX2_passSeasons_42 (rfl) [0, 5, 9, 10, 11] rfl (by decide) (by decide)

set_option maxRecDepth 100000 in
set_option maxHeartbeats 4000000 in
theorem m_X2_moralOf (l : Launch) (G : Nat → Prop) (D : va_G) (cI cJ : ClassId) (aX : Nat) (w : Int32) (aB : Nat) (aL : Nat) (aT : Nat) (se : Int32) (n : Nat) (aB0 : Nat) (aB1 : Nat) (aB2 : Nat) (aB3 : Nat) (aB4 : Nat) (aB5 : Nat) (fm : Nat → Int32) (hn : n ≤ 20) : z_MX l yX2_moralOf wsX2_moralOf { frames := 7, cells := 6, slots := 36, locals := 103 } G D [(cI, .int), (cJ, .long)] [.ref aX, .int w] [(aX, .inr (2, [.ref aB, .ref aL, .ref aT, .int se])), (aB, .inr (0, [.int (nI n), .ref aB0, .ref aB1, .ref aB2, .ref aB3, .ref aB4, .ref aB5])), (aB0, .inl (cI, 20, .inl fm))] (cd1 (fin w n) = 0) (some (.int (fm (ix w)))) [] (z_exc z_IOB z_ISE (cd1 (fin w n))) [] 6 36 := by
  have iX2 : ∀ w ∈ u_ws RX2 TX2 4, w ∈ wsX2_moralOf := fun w h => List.mem_cons_of_mem _ (List.mem_append_left _ (List.mem_append_left _ (List.mem_append_right _ h)))
  have iX0 : ∀ w ∈ u_ws RX0 TX0 7, w ∈ wsX2_moralOf := fun w h => List.mem_cons_of_mem _ (List.mem_append_left _ (List.mem_append_right _ h))
  have t242 : ∀ w ∈ (vx_atS "FableIndex" 242 z_IOB ["java/lang/RuntimeException", "java/lang/Exception"]).filter goodWord, w ∈ wsX2_moralOf := fun w h => List.mem_cons_of_mem _ (List.mem_append_right _ h)
  refine z_ofWX (cc := cX2_moralOf) (nL := 2) (ret := (some .int)) (by decide) rfl (Nat.le_of_ble_eq_true rfl) [] rfl (lv0 := [(0, .ref aX), (1, .int w)]) rfl ?_
  intro p e s m args below meth c K htab
  refine z_aload_n K 0 dX2_moralOf_0 rfl ?_
  refine z_iload_n K 1 dX2_moralOf_1 rfl ?_
  refine z_callVX (ws' := [(aX, .inr (2, [.ref aB, .ref aL, .ref aT, .int se])), (aB, .inr (0, [.int (nI n), .ref aB0, .ref aB1, .ref aB2, .ref aB3, .ref aB4, .ref aB5])), (aB0, .inl (cI, 20, .inl fm))]) (st' := []) (rest := []) (C := RX2) (T := TX2) (N := 4) K (m_X2_needFable l G D cI cJ aX w aB aL aT se n aB0 aB1 aB2 aB3 aB4 aB5 (by omega)) gX2_moralOf_X2_needFable rfl 1 2 (by decide +kernel) rfl dX2_moralOf_2 [0, 1] 0 [] [] rfl rfl rfl ⟨by decide, by decide⟩ ⟨by decide, by decide⟩ rfl rfl rfl rfl rfl (Nat.le_of_ble_eq_true rfl) rfl rfl rfl rfl rfl rfl rfl (fun E hE => zx_out K htab rfl (by obtain ⟨rfl, h9⟩ := hE; simp [z_exc, cd1, h9]) [] rfl (by decide) (by decide)) (fun k2 => ?_)
  obtain ⟨jw, hjw, rfl⟩ := fin_ix k2 (by omega)
  have ejw : ix (nI jw) = jw := ix_nI (by omega)
  refine z_aload_n K 0 dX2_moralOf_5 rfl ?_
  refine z_get (C := RX2) (T := TX2) (N := 4) (ci := 2) K iX2 rfl 0 rfl 0 (by decide) (by decide +kernel) rfl rfl dX2_moralOf_6 ?_
  refine z_get (C := RX0) (T := TX0) (N := 7) (ci := 0) K iX0 rfl 1 rfl 1 (by decide) (by decide +kernel) rfl rfl dX2_moralOf_9 ?_
  refine z_iload_n K 1 dX2_moralOf_12 rfl ?_
  refine z_ialdN K 2 0 jw (by omega) (by omega) rfl rfl dX2_moralOf_13 ?_
  exact z_iretX K (by simp [cd1, k2, ejw]) dX2_moralOf_14 ((by first | (simp only [k2, ejw, Bool.false_eq_true, if_false, if_true, ↓reduceIte]; done) | rfl | simp [k2, ejw])) [] rfl (by decide) (by decide)

set_option maxRecDepth 100000 in
set_option maxHeartbeats 4000000 in
theorem m_X2_beastsOf (l : Launch) (G : Nat → Prop) (D : va_G) (cI cJ : ClassId) (aX : Nat) (w : Int32) (aB : Nat) (aL : Nat) (aT : Nat) (se : Int32) (n : Nat) (aB0 : Nat) (aB1 : Nat) (aB2 : Nat) (aB3 : Nat) (aB4 : Nat) (aB5 : Nat) (fb : Nat → Int32) (hn : n ≤ 20) : z_MX l yX2_beastsOf wsX2_beastsOf { frames := 7, cells := 6, slots := 36, locals := 103 } G D [(cI, .int), (cJ, .long)] [.ref aX, .int w] [(aX, .inr (2, [.ref aB, .ref aL, .ref aT, .int se])), (aB, .inr (0, [.int (nI n), .ref aB0, .ref aB1, .ref aB2, .ref aB3, .ref aB4, .ref aB5])), (aB1, .inl (cI, 20, .inl fb))] (cd1 (fin w n) = 0) (some (.int (pc (fb (ix w))))) [] (z_exc z_IOB z_ISE (cd1 (fin w n))) [] 6 36 := by
  have iX2 : ∀ w ∈ u_ws RX2 TX2 4, w ∈ wsX2_beastsOf := fun w h => List.mem_cons_of_mem _ (List.mem_append_left _ (List.mem_append_left _ (List.mem_append_right _ h)))
  have iX0 : ∀ w ∈ u_ws RX0 TX0 7, w ∈ wsX2_beastsOf := fun w h => List.mem_cons_of_mem _ (List.mem_append_left _ (List.mem_append_right _ h))
  have t242 : ∀ w ∈ (vx_atS "FableIndex" 242 z_IOB ["java/lang/RuntimeException", "java/lang/Exception"]).filter goodWord, w ∈ wsX2_beastsOf := fun w h => List.mem_cons_of_mem _ (List.mem_append_right _ h)
  refine z_ofWX (cc := cX2_beastsOf) (nL := 2) (ret := (some .int)) (by decide) rfl (Nat.le_of_ble_eq_true rfl) [] rfl (lv0 := [(0, .ref aX), (1, .int w)]) rfl ?_
  intro p e s m args below meth c K htab
  refine z_aload_n K 0 dX2_beastsOf_0 rfl ?_
  refine z_iload_n K 1 dX2_beastsOf_1 rfl ?_
  refine z_callVX (ws' := [(aX, .inr (2, [.ref aB, .ref aL, .ref aT, .int se])), (aB, .inr (0, [.int (nI n), .ref aB0, .ref aB1, .ref aB2, .ref aB3, .ref aB4, .ref aB5])), (aB1, .inl (cI, 20, .inl fb))]) (st' := []) (rest := []) (C := RX2) (T := TX2) (N := 4) K (m_X2_needFable l G D cI cJ aX w aB aL aT se n aB0 aB1 aB2 aB3 aB4 aB5 (by omega)) gX2_beastsOf_X2_needFable rfl 1 2 (by decide +kernel) rfl dX2_beastsOf_2 [0, 1] 0 [] [] rfl rfl rfl ⟨by decide, by decide⟩ ⟨by decide, by decide⟩ rfl rfl rfl rfl rfl (Nat.le_of_ble_eq_true rfl) rfl rfl rfl rfl rfl rfl rfl (fun E hE => zx_out K htab rfl (by obtain ⟨rfl, h9⟩ := hE; simp [z_exc, cd1, h9]) [] rfl (by decide) (by decide)) (fun k2 => ?_)
  obtain ⟨jw, hjw, rfl⟩ := fin_ix k2 (by omega)
  have ejw : ix (nI jw) = jw := ix_nI (by omega)
  refine z_aload_n K 0 dX2_beastsOf_5 rfl ?_
  refine z_get (C := RX2) (T := TX2) (N := 4) (ci := 2) K iX2 rfl 0 rfl 0 (by decide) (by decide +kernel) rfl rfl dX2_beastsOf_6 ?_
  refine z_get (C := RX0) (T := TX0) (N := 7) (ci := 0) K iX0 rfl 1 rfl 2 (by decide) (by decide +kernel) rfl rfl dX2_beastsOf_9 ?_
  refine z_iload_n K 1 dX2_beastsOf_12 rfl ?_
  refine z_ialdN K 2 0 jw (by omega) (by omega) rfl rfl dX2_beastsOf_13 ?_
  refine z_callS (ws' := [(aX, .inr (2, [.ref aB, .ref aL, .ref aT, .int se])), (aB, .inr (0, [.int (nI n), .ref aB0, .ref aB1, .ref aB2, .ref aB3, .ref aB4, .ref aB5])), (aB1, .inl (cI, 20, .inl fb))]) (st' := [.int (pc (fb jw))]) (rest := []) K (m_X2_size l G D cI cJ (fb jw) ) gX2_beastsOf_X2_size rfl 1 (by decide +kernel) dX2_beastsOf_14 [] [] [] rfl rfl rfl ⟨by decide, by decide⟩ ⟨by decide, by decide⟩ rfl rfl rfl rfl (Nat.le_of_ble_eq_true rfl) rfl rfl rfl rfl ?_
  exact z_iretX K (by simp [cd1, k2, ejw]) dX2_beastsOf_17 ((by first | (simp only [k2, ejw, Bool.false_eq_true, if_false, if_true, ↓reduceIte]; done) | rfl | simp [k2, ejw])) [] rfl (by decide) (by decide)

set_option maxRecDepth 100000 in
set_option maxHeartbeats 4000000 in
theorem m_X2_homeOf (l : Launch) (G : Nat → Prop) (D : va_G) (cI cJ : ClassId) (aX : Nat) (w : Int32) (aB : Nat) (aL : Nat) (aT : Nat) (se : Int32) (n : Nat) (aB0 : Nat) (aB1 : Nat) (aB2 : Nat) (aB3 : Nat) (aB4 : Nat) (aB5 : Nat) (fh : Nat → Int32) (hn : n ≤ 20) : z_MX l yX2_homeOf wsX2_homeOf { frames := 7, cells := 6, slots := 36, locals := 103 } G D [(cI, .int), (cJ, .long)] [.ref aX, .int w] [(aX, .inr (2, [.ref aB, .ref aL, .ref aT, .int se])), (aB, .inr (0, [.int (nI n), .ref aB0, .ref aB1, .ref aB2, .ref aB3, .ref aB4, .ref aB5])), (aB2, .inl (cI, 20, .inl fh))] (cd1 (fin w n) = 0) (some (.int (fh (ix w)))) [] (z_exc z_IOB z_ISE (cd1 (fin w n))) [] 6 36 := by
  have iX2 : ∀ w ∈ u_ws RX2 TX2 4, w ∈ wsX2_homeOf := fun w h => List.mem_cons_of_mem _ (List.mem_append_left _ (List.mem_append_left _ (List.mem_append_right _ h)))
  have iX0 : ∀ w ∈ u_ws RX0 TX0 7, w ∈ wsX2_homeOf := fun w h => List.mem_cons_of_mem _ (List.mem_append_left _ (List.mem_append_right _ h))
  have t242 : ∀ w ∈ (vx_atS "FableIndex" 242 z_IOB ["java/lang/RuntimeException", "java/lang/Exception"]).filter goodWord, w ∈ wsX2_homeOf := fun w h => List.mem_cons_of_mem _ (List.mem_append_right _ h)
  refine z_ofWX (cc := cX2_homeOf) (nL := 2) (ret := (some .int)) (by decide) rfl (Nat.le_of_ble_eq_true rfl) [] rfl (lv0 := [(0, .ref aX), (1, .int w)]) rfl ?_
  intro p e s m args below meth c K htab
  refine z_aload_n K 0 dX2_homeOf_0 rfl ?_
  refine z_iload_n K 1 dX2_homeOf_1 rfl ?_
  refine z_callVX (ws' := [(aX, .inr (2, [.ref aB, .ref aL, .ref aT, .int se])), (aB, .inr (0, [.int (nI n), .ref aB0, .ref aB1, .ref aB2, .ref aB3, .ref aB4, .ref aB5])), (aB2, .inl (cI, 20, .inl fh))]) (st' := []) (rest := []) (C := RX2) (T := TX2) (N := 4) K (m_X2_needFable l G D cI cJ aX w aB aL aT se n aB0 aB1 aB2 aB3 aB4 aB5 (by omega)) gX2_homeOf_X2_needFable rfl 1 2 (by decide +kernel) rfl dX2_homeOf_2 [0, 1] 0 [] [] rfl rfl rfl ⟨by decide, by decide⟩ ⟨by decide, by decide⟩ rfl rfl rfl rfl rfl (Nat.le_of_ble_eq_true rfl) rfl rfl rfl rfl rfl rfl rfl (fun E hE => zx_out K htab rfl (by obtain ⟨rfl, h9⟩ := hE; simp [z_exc, cd1, h9]) [] rfl (by decide) (by decide)) (fun k2 => ?_)
  obtain ⟨jw, hjw, rfl⟩ := fin_ix k2 (by omega)
  have ejw : ix (nI jw) = jw := ix_nI (by omega)
  refine z_aload_n K 0 dX2_homeOf_5 rfl ?_
  refine z_get (C := RX2) (T := TX2) (N := 4) (ci := 2) K iX2 rfl 0 rfl 0 (by decide) (by decide +kernel) rfl rfl dX2_homeOf_6 ?_
  refine z_get (C := RX0) (T := TX0) (N := 7) (ci := 0) K iX0 rfl 1 rfl 3 (by decide) (by decide +kernel) rfl rfl dX2_homeOf_9 ?_
  refine z_iload_n K 1 dX2_homeOf_12 rfl ?_
  refine z_ialdN K 2 0 jw (by omega) (by omega) rfl rfl dX2_homeOf_13 ?_
  exact z_iretX K (by simp [cd1, k2, ejw]) dX2_homeOf_14 ((by first | (simp only [k2, ejw, Bool.false_eq_true, if_false, if_true, ↓reduceIte]; done) | rfl | simp [k2, ejw])) [] rfl (by decide) (by decide)

set_option maxRecDepth 100000 in
set_option maxHeartbeats 4000000 in
theorem m_X2_parentOf (l : Launch) (G : Nat → Prop) (D : va_G) (cI cJ : ClassId) (aX : Nat) (w : Int32) (aB : Nat) (aL : Nat) (aT : Nat) (se : Int32) (n : Nat) (aB0 : Nat) (aB1 : Nat) (aB2 : Nat) (aB3 : Nat) (aB4 : Nat) (aB5 : Nat) (fp : Nat → Int32) (hn : n ≤ 20) : z_MX l yX2_parentOf wsX2_parentOf { frames := 7, cells := 6, slots := 36, locals := 103 } G D [(cI, .int), (cJ, .long)] [.ref aX, .int w] [(aX, .inr (2, [.ref aB, .ref aL, .ref aT, .int se])), (aB, .inr (0, [.int (nI n), .ref aB0, .ref aB1, .ref aB2, .ref aB3, .ref aB4, .ref aB5])), (aB3, .inl (cI, 20, .inl fp))] (cd1 (fin w n) = 0) (some (.int (fp (ix w)))) [] (z_exc z_IOB z_ISE (cd1 (fin w n))) [] 6 36 := by
  have iX2 : ∀ w ∈ u_ws RX2 TX2 4, w ∈ wsX2_parentOf := fun w h => List.mem_cons_of_mem _ (List.mem_append_left _ (List.mem_append_left _ (List.mem_append_right _ h)))
  have iX0 : ∀ w ∈ u_ws RX0 TX0 7, w ∈ wsX2_parentOf := fun w h => List.mem_cons_of_mem _ (List.mem_append_left _ (List.mem_append_right _ h))
  have t242 : ∀ w ∈ (vx_atS "FableIndex" 242 z_IOB ["java/lang/RuntimeException", "java/lang/Exception"]).filter goodWord, w ∈ wsX2_parentOf := fun w h => List.mem_cons_of_mem _ (List.mem_append_right _ h)
  refine z_ofWX (cc := cX2_parentOf) (nL := 2) (ret := (some .int)) (by decide) rfl (Nat.le_of_ble_eq_true rfl) [] rfl (lv0 := [(0, .ref aX), (1, .int w)]) rfl ?_
  intro p e s m args below meth c K htab
  refine z_aload_n K 0 dX2_parentOf_0 rfl ?_
  refine z_iload_n K 1 dX2_parentOf_1 rfl ?_
  refine z_callVX (ws' := [(aX, .inr (2, [.ref aB, .ref aL, .ref aT, .int se])), (aB, .inr (0, [.int (nI n), .ref aB0, .ref aB1, .ref aB2, .ref aB3, .ref aB4, .ref aB5])), (aB3, .inl (cI, 20, .inl fp))]) (st' := []) (rest := []) (C := RX2) (T := TX2) (N := 4) K (m_X2_needFable l G D cI cJ aX w aB aL aT se n aB0 aB1 aB2 aB3 aB4 aB5 (by omega)) gX2_parentOf_X2_needFable rfl 1 2 (by decide +kernel) rfl dX2_parentOf_2 [0, 1] 0 [] [] rfl rfl rfl ⟨by decide, by decide⟩ ⟨by decide, by decide⟩ rfl rfl rfl rfl rfl (Nat.le_of_ble_eq_true rfl) rfl rfl rfl rfl rfl rfl rfl (fun E hE => zx_out K htab rfl (by obtain ⟨rfl, h9⟩ := hE; simp [z_exc, cd1, h9]) [] rfl (by decide) (by decide)) (fun k2 => ?_)
  obtain ⟨jw, hjw, rfl⟩ := fin_ix k2 (by omega)
  have ejw : ix (nI jw) = jw := ix_nI (by omega)
  refine z_aload_n K 0 dX2_parentOf_5 rfl ?_
  refine z_get (C := RX2) (T := TX2) (N := 4) (ci := 2) K iX2 rfl 0 rfl 0 (by decide) (by decide +kernel) rfl rfl dX2_parentOf_6 ?_
  refine z_get (C := RX0) (T := TX0) (N := 7) (ci := 0) K iX0 rfl 1 rfl 4 (by decide) (by decide +kernel) rfl rfl dX2_parentOf_9 ?_
  refine z_iload_n K 1 dX2_parentOf_12 rfl ?_
  refine z_ialdN K 2 0 jw (by omega) (by omega) rfl rfl dX2_parentOf_13 ?_
  exact z_iretX K (by simp [cd1, k2, ejw]) dX2_parentOf_14 ((by first | (simp only [k2, ejw, Bool.false_eq_true, if_false, if_true, ↓reduceIte]; done) | rfl | simp [k2, ejw])) [] rfl (by decide) (by decide)

set_option maxRecDepth 100000 in
set_option maxHeartbeats 4000000 in
theorem m_X2_variantsOf (l : Launch) (G : Nat → Prop) (D : va_G) (cI cJ : ClassId) (aX : Nat) (w : Int32) (aB : Nat) (aL : Nat) (aT : Nat) (se : Int32) (n : Nat) (aB0 : Nat) (aB1 : Nat) (aB2 : Nat) (aB3 : Nat) (aB4 : Nat) (aB5 : Nat) (fv : Nat → Int32) (hn : n ≤ 20) : z_MX l yX2_variantsOf wsX2_variantsOf { frames := 7, cells := 6, slots := 36, locals := 103 } G D [(cI, .int), (cJ, .long)] [.ref aX, .int w] [(aX, .inr (2, [.ref aB, .ref aL, .ref aT, .int se])), (aB, .inr (0, [.int (nI n), .ref aB0, .ref aB1, .ref aB2, .ref aB3, .ref aB4, .ref aB5])), (aB4, .inl (cI, 20, .inl fv))] (cd1 (fin w n) = 0) (some (.int (pc (fv (ix w))))) [] (z_exc z_IOB z_ISE (cd1 (fin w n))) [] 6 36 := by
  have iX2 : ∀ w ∈ u_ws RX2 TX2 4, w ∈ wsX2_variantsOf := fun w h => List.mem_cons_of_mem _ (List.mem_append_left _ (List.mem_append_left _ (List.mem_append_right _ h)))
  have iX0 : ∀ w ∈ u_ws RX0 TX0 7, w ∈ wsX2_variantsOf := fun w h => List.mem_cons_of_mem _ (List.mem_append_left _ (List.mem_append_right _ h))
  have t242 : ∀ w ∈ (vx_atS "FableIndex" 242 z_IOB ["java/lang/RuntimeException", "java/lang/Exception"]).filter goodWord, w ∈ wsX2_variantsOf := fun w h => List.mem_cons_of_mem _ (List.mem_append_right _ h)
  refine z_ofWX (cc := cX2_variantsOf) (nL := 2) (ret := (some .int)) (by decide) rfl (Nat.le_of_ble_eq_true rfl) [] rfl (lv0 := [(0, .ref aX), (1, .int w)]) rfl ?_
  intro p e s m args below meth c K htab
  refine z_aload_n K 0 dX2_variantsOf_0 rfl ?_
  refine z_iload_n K 1 dX2_variantsOf_1 rfl ?_
  refine z_callVX (ws' := [(aX, .inr (2, [.ref aB, .ref aL, .ref aT, .int se])), (aB, .inr (0, [.int (nI n), .ref aB0, .ref aB1, .ref aB2, .ref aB3, .ref aB4, .ref aB5])), (aB4, .inl (cI, 20, .inl fv))]) (st' := []) (rest := []) (C := RX2) (T := TX2) (N := 4) K (m_X2_needFable l G D cI cJ aX w aB aL aT se n aB0 aB1 aB2 aB3 aB4 aB5 (by omega)) gX2_variantsOf_X2_needFable rfl 1 2 (by decide +kernel) rfl dX2_variantsOf_2 [0, 1] 0 [] [] rfl rfl rfl ⟨by decide, by decide⟩ ⟨by decide, by decide⟩ rfl rfl rfl rfl rfl (Nat.le_of_ble_eq_true rfl) rfl rfl rfl rfl rfl rfl rfl (fun E hE => zx_out K htab rfl (by obtain ⟨rfl, h9⟩ := hE; simp [z_exc, cd1, h9]) [] rfl (by decide) (by decide)) (fun k2 => ?_)
  obtain ⟨jw, hjw, rfl⟩ := fin_ix k2 (by omega)
  have ejw : ix (nI jw) = jw := ix_nI (by omega)
  refine z_aload_n K 0 dX2_variantsOf_5 rfl ?_
  refine z_get (C := RX2) (T := TX2) (N := 4) (ci := 2) K iX2 rfl 0 rfl 0 (by decide) (by decide +kernel) rfl rfl dX2_variantsOf_6 ?_
  refine z_get (C := RX0) (T := TX0) (N := 7) (ci := 0) K iX0 rfl 1 rfl 5 (by decide) (by decide +kernel) rfl rfl dX2_variantsOf_9 ?_
  refine z_iload_n K 1 dX2_variantsOf_12 rfl ?_
  refine z_ialdN K 2 0 jw (by omega) (by omega) rfl rfl dX2_variantsOf_13 ?_
  refine z_callS (ws' := [(aX, .inr (2, [.ref aB, .ref aL, .ref aT, .int se])), (aB, .inr (0, [.int (nI n), .ref aB0, .ref aB1, .ref aB2, .ref aB3, .ref aB4, .ref aB5])), (aB4, .inl (cI, 20, .inl fv))]) (st' := [.int (pc (fv jw))]) (rest := []) K (m_X2_size l G D cI cJ (fv jw) ) gX2_variantsOf_X2_size rfl 1 (by decide +kernel) dX2_variantsOf_14 [] [] [] rfl rfl rfl ⟨by decide, by decide⟩ ⟨by decide, by decide⟩ rfl rfl rfl rfl (Nat.le_of_ble_eq_true rfl) rfl rfl rfl rfl ?_
  exact z_iretX K (by simp [cd1, k2, ejw]) dX2_variantsOf_17 ((by first | (simp only [k2, ejw, Bool.false_eq_true, if_false, if_true, ↓reduceIte]; done) | rfl | simp [k2, ejw])) [] rfl (by decide) (by decide)

set_option maxRecDepth 100000 in
set_option maxHeartbeats 4000000 in
theorem m_X2_valleysOf (l : Launch) (G : Nat → Prop) (D : va_G) (cI cJ : ClassId) (aX : Nat) (w : Int32) (aB : Nat) (aL : Nat) (aT : Nat) (se : Int32) (n : Nat) (aB0 : Nat) (aB1 : Nat) (aB2 : Nat) (aB3 : Nat) (aB4 : Nat) (aB5 : Nat) (aL0 : Nat) (aL1 : Nat) (aL2 : Nat) (aL3 : Nat) (aL4 : Nat) (aL5 : Nat) (hu : Int32) (lt : Nat → Int32) (hn : n ≤ 20) : z_MX l yX2_valleysOf wsX2_valleysOf { frames := 7, cells := 6, slots := 36, locals := 103 } G D [(cI, .int), (cJ, .long)] [.ref aX, .int w] [(aX, .inr (2, [.ref aB, .ref aL, .ref aT, .int se])), (aB, .inr (0, [.int (nI n), .ref aB0, .ref aB1, .ref aB2, .ref aB3, .ref aB4, .ref aB5])), (aL, .inr (1, [.ref aL0, .ref aL1, .ref aL2, .ref aL3, .ref aL4, .ref aL5, .int hu])), (aL3, .inl (cI, 6, .inl lt))] (cd1 (fin w n) = 0) (some (.int (cntS lt ((1 : Int32) <<< (w &&& 31)) 6))) [] (z_exc z_IOB z_ISE (cd1 (fin w n))) [] 6 36 := by
  have iX2 : ∀ w ∈ u_ws RX2 TX2 4, w ∈ wsX2_valleysOf := fun w h => List.mem_cons_of_mem _ (List.mem_append_left _ (List.mem_append_left _ (List.mem_append_left _ (List.mem_append_right _ h))))
  have iX0 : ∀ w ∈ u_ws RX0 TX0 7, w ∈ wsX2_valleysOf := fun w h => List.mem_cons_of_mem _ (List.mem_append_left _ (List.mem_append_left _ (List.mem_append_right _ h)))
  have iX1 : ∀ w ∈ u_ws RX1 TX1 7, w ∈ wsX2_valleysOf := fun w h => List.mem_cons_of_mem _ (List.mem_append_left _ (List.mem_append_right _ h))
  have t242 : ∀ w ∈ (vx_atS "FableIndex" 242 z_IOB ["java/lang/RuntimeException", "java/lang/Exception"]).filter goodWord, w ∈ wsX2_valleysOf := fun w h => List.mem_cons_of_mem _ (List.mem_append_right _ h)
  refine z_ofWX (cc := cX2_valleysOf) (nL := 2) (ret := (some .int)) (by decide) rfl (Nat.le_of_ble_eq_true rfl) [] rfl (lv0 := [(0, .ref aX), (1, .int w)]) rfl ?_
  intro p e s m args below meth c K htab
  refine z_aload_n K 0 dX2_valleysOf_0 rfl ?_
  refine z_iload_n K 1 dX2_valleysOf_1 rfl ?_
  refine z_callVX (ws' := [(aX, .inr (2, [.ref aB, .ref aL, .ref aT, .int se])), (aB, .inr (0, [.int (nI n), .ref aB0, .ref aB1, .ref aB2, .ref aB3, .ref aB4, .ref aB5])), (aL, .inr (1, [.ref aL0, .ref aL1, .ref aL2, .ref aL3, .ref aL4, .ref aL5, .int hu])), (aL3, .inl (cI, 6, .inl lt))]) (st' := []) (rest := []) (C := RX2) (T := TX2) (N := 4) K (m_X2_needFable l G D cI cJ aX w aB aL aT se n aB0 aB1 aB2 aB3 aB4 aB5 (by omega)) gX2_valleysOf_X2_needFable rfl 1 2 (by decide +kernel) rfl dX2_valleysOf_2 [0, 1] 0 [] [] rfl rfl rfl ⟨by decide, by decide⟩ ⟨by decide, by decide⟩ rfl rfl rfl rfl rfl (Nat.le_of_ble_eq_true rfl) rfl rfl rfl rfl rfl rfl rfl (fun E hE => zx_out K htab rfl (by obtain ⟨rfl, h9⟩ := hE; simp [z_exc, cd1, h9]) [] rfl (by decide) (by decide)) (fun k2 => ?_)
  obtain ⟨jw, hjw, rfl⟩ := fin_ix k2 (by omega)
  have ejw : ix (nI jw) = jw := ix_nI (by omega)
  refine z_aload_n K 0 dX2_valleysOf_5 rfl ?_
  refine z_get (C := RX2) (T := TX2) (N := 4) (ci := 2) K iX2 rfl 0 rfl 1 (by decide) (by decide +kernel) rfl rfl dX2_valleysOf_6 ?_
  refine z_iconst (v := 1) K dX2_valleysOf_9 (by decide) ?_
  refine z_iload_n K 1 dX2_valleysOf_10 rfl ?_
  refine z_ishl K dX2_valleysOf_11 ?_
  refine z_callV (ws' := [(aX, .inr (2, [.ref aB, .ref aL, .ref aT, .int se])), (aB, .inr (0, [.int (nI n), .ref aB0, .ref aB1, .ref aB2, .ref aB3, .ref aB4, .ref aB5])), (aL, .inr (1, [.ref aL0, .ref aL1, .ref aL2, .ref aL3, .ref aL4, .ref aL5, .int hu])), (aL3, .inl (cI, 6, .inl lt))]) (st' := [.int (cntS lt ((1 : Int32) <<< ((nI jw) &&& 31)) 6)]) (rest := []) (C := RX1) (T := TX1) (N := 7) K (m_X1_count l G D cI cJ aL ((1 : Int32) <<< ((nI jw) &&& 31)) aL0 aL1 aL2 aL3 aL4 aL5 hu lt ) gX2_valleysOf_X1_count rfl 1 1 (by decide +kernel) rfl dX2_valleysOf_12 [2, 3] 2 [] [] rfl rfl rfl ⟨by decide, by decide⟩ ⟨by decide, by decide⟩ rfl rfl rfl rfl rfl (Nat.le_of_ble_eq_true rfl) rfl rfl rfl rfl ?_
  exact z_iretX K (by simp [cd1, k2, ejw]) dX2_valleysOf_15 (rfl) [] rfl (by decide) (by decide)

set_option maxRecDepth 100000 in
set_option maxHeartbeats 4000000 in
theorem m_X2_hasBeast (l : Launch) (G : Nat → Prop) (D : va_G) (cI cJ : ClassId) (aX : Nat) (w : Int32) (x : Int32) (aB : Nat) (aL : Nat) (aT : Nat) (se : Int32) (n : Nat) (aB0 : Nat) (aB1 : Nat) (aB2 : Nat) (aB3 : Nat) (aB4 : Nat) (aB5 : Nat) (fb : Nat → Int32) (hn : n ≤ 20) : z_MX l yX2_hasBeast wsX2_hasBeast { frames := 7, cells := 6, slots := 36, locals := 103 } G D [(cI, .int), (cJ, .long)] [.ref aX, .int w, .int x] [(aX, .inr (2, [.ref aB, .ref aL, .ref aT, .int se])), (aB, .inr (0, [.int (nI n), .ref aB0, .ref aB1, .ref aB2, .ref aB3, .ref aB4, .ref aB5])), (aB1, .inl (cI, 20, .inl fb))] (cd1 (fin w n && fin x 12) = 0) (some (.int (z_b (hs (fb (ix w)) x)))) [] (z_exc z_IOB z_ISE (cd1 (fin w n && fin x 12))) [] 6 36 := by
  have iX2 : ∀ w ∈ u_ws RX2 TX2 4, w ∈ wsX2_hasBeast := fun w h => List.mem_cons_of_mem _ (List.mem_append_left _ (List.mem_append_left _ (List.mem_append_right _ h)))
  have iX0 : ∀ w ∈ u_ws RX0 TX0 7, w ∈ wsX2_hasBeast := fun w h => List.mem_cons_of_mem _ (List.mem_append_left _ (List.mem_append_right _ h))
  have t242 : ∀ w ∈ (vx_atS "FableIndex" 242 z_IOB ["java/lang/RuntimeException", "java/lang/Exception"]).filter goodWord, w ∈ wsX2_hasBeast := fun w h => List.mem_cons_of_mem _ (List.mem_append_right _ h)
  refine z_ofWX (cc := cX2_hasBeast) (nL := 3) (ret := (some .boolean)) (by decide) rfl (Nat.le_of_ble_eq_true rfl) [] rfl (lv0 := [(0, .ref aX), (1, .int w), (2, .int x)]) rfl ?_
  intro p e s m args below meth c K htab
  refine z_aload_n K 0 dX2_hasBeast_0 rfl ?_
  refine z_iload_n K 1 dX2_hasBeast_1 rfl ?_
  refine z_callVX (ws' := [(aX, .inr (2, [.ref aB, .ref aL, .ref aT, .int se])), (aB, .inr (0, [.int (nI n), .ref aB0, .ref aB1, .ref aB2, .ref aB3, .ref aB4, .ref aB5])), (aB1, .inl (cI, 20, .inl fb))]) (st' := []) (rest := []) (C := RX2) (T := TX2) (N := 4) K (m_X2_needFable l G D cI cJ aX w aB aL aT se n aB0 aB1 aB2 aB3 aB4 aB5 (by omega)) gX2_hasBeast_X2_needFable rfl 1 2 (by decide +kernel) rfl dX2_hasBeast_2 [0, 1] 0 [] [] rfl rfl rfl ⟨by decide, by decide⟩ ⟨by decide, by decide⟩ rfl rfl rfl rfl rfl (Nat.le_of_ble_eq_true rfl) rfl rfl rfl rfl rfl rfl rfl (fun E hE => zx_out K htab rfl (by obtain ⟨rfl, h9⟩ := hE; simp [z_exc, cd1, h9]) [] rfl (by decide) (by decide)) (fun k2 => ?_)
  obtain ⟨jw, hjw, rfl⟩ := fin_ix k2 (by omega)
  have ejw : ix (nI jw) = jw := ix_nI (by omega)
  refine z_iload_n K 2 dX2_hasBeast_5 rfl ?_
  refine z_callSX (ws' := [(aX, .inr (2, [.ref aB, .ref aL, .ref aT, .int se])), (aB, .inr (0, [.int (nI n), .ref aB0, .ref aB1, .ref aB2, .ref aB3, .ref aB4, .ref aB5])), (aB1, .inl (cI, 20, .inl fb))]) (st' := []) (rest := []) K (m_X2_needBeast l G D cI cJ x ) gX2_hasBeast_X2_needBeast rfl 1 (by decide +kernel) dX2_hasBeast_6 [] [] [] rfl rfl rfl ⟨by decide, by decide⟩ ⟨by decide, by decide⟩ rfl rfl rfl rfl (Nat.le_of_ble_eq_true rfl) rfl rfl rfl rfl rfl rfl rfl (fun E hE => zx_out K htab rfl (by obtain ⟨rfl, h9⟩ := hE; simp [z_exc, cd1, k2, ejw, h9]) [] rfl (by decide) (by decide)) (fun k6 => ?_)
  refine z_aload_n K 0 dX2_hasBeast_9 rfl ?_
  refine z_get (C := RX2) (T := TX2) (N := 4) (ci := 2) K iX2 rfl 0 rfl 0 (by decide) (by decide +kernel) rfl rfl dX2_hasBeast_10 ?_
  refine z_get (C := RX0) (T := TX0) (N := 7) (ci := 0) K iX0 rfl 1 rfl 2 (by decide) (by decide +kernel) rfl rfl dX2_hasBeast_13 ?_
  refine z_iload_n K 1 dX2_hasBeast_16 rfl ?_
  refine z_ialdN K 2 0 jw (by omega) (by omega) rfl rfl dX2_hasBeast_17 ?_
  refine z_iload_n K 2 dX2_hasBeast_18 rfl ?_
  refine z_callS (ws' := [(aX, .inr (2, [.ref aB, .ref aL, .ref aT, .int se])), (aB, .inr (0, [.int (nI n), .ref aB0, .ref aB1, .ref aB2, .ref aB3, .ref aB4, .ref aB5])), (aB1, .inl (cI, 20, .inl fb))]) (st' := [.int (z_b (hs (fb jw) x))]) (rest := []) K (m_X2_has l G D cI cJ (fb jw) x ) gX2_hasBeast_X2_has rfl 2 (by decide +kernel) dX2_hasBeast_19 [] [] [] rfl rfl rfl ⟨by decide, by decide⟩ ⟨by decide, by decide⟩ rfl rfl rfl rfl (Nat.le_of_ble_eq_true rfl) rfl rfl rfl rfl ?_
  exact z_zretX K (by simp [cd1, k2, ejw, k6]) dX2_hasBeast_22 ((by first | (simp only [k2, ejw, k6, Bool.false_eq_true, if_false, if_true, ↓reduceIte]; done) | rfl | simp [k2, ejw, k6])) [] rfl (by decide) (by decide)

set_option maxRecDepth 100000 in
set_option maxHeartbeats 4000000 in
theorem m_X2_greatest (l : Launch) (G : Nat → Prop) (D : va_G) (cI cJ : ClassId) (w : Int32)  : z_M l yX2_greatest wsX2_greatest { frames := 1, cells := 0, slots := 0, locals := 21 } G D [(cI, .int), (cJ, .long)] [.int w] [] (some (.int (grF w 20))) [] 0 0 := by
  refine z_ofW (cc := cX2_greatest) (nL := 2) (ret := (some .int)) (by decide) rfl (Nat.le_of_ble_eq_true rfl) [] rfl (lv0 := [(0, .int w)]) rfl ?_
  intro p e s m args below meth c K
  refine z_bipush (v := 19) K dX2_greatest_0 (by decide) ?_
  refine z_istore_n (lv' := [(1, .int 19), (0, .int w)]) K dX2_greatest_2 (by decide) rfl ?_
  refine z_upI (wsf := fun _ => []) (lvf := fun k => [(1, .int (gi k)), (0, .int w)]) (fun k => grF w 20 = grF w k) 20 rfl rfl rfl (fun hg => ?_) (fun k hk ih hg => ?_)
  · refine z_iload_n K 0 dX2_greatest_3 rfl ?_
    refine z_if_lt K 23 dX2_greatest_4 (by decide) (fun _ => ?_) (fun h => absurd (show gi 0 < 0 by decide) h)
    refine z_iconst (v := -1) K dX2_greatest_23 (by decide) ?_
    exact z_iret K dX2_greatest_24 (by rw [hg]; rfl) [] rfl (by decide) (by decide)
  · show Z p l e _ s m args below meth c D _ G _ _ [] [(1, .int (nI k)), (0, .int w)] _ _ 3 []
    refine z_iload_n K 0 dX2_greatest_3 rfl ?_
    refine z_if_lt K 23 dX2_greatest_4 (by decide) (fun h => absurd h (nI_pos (by omega))) (fun _ => ?_)
    refine z_iload_n K 1 dX2_greatest_7 rfl ?_
    refine z_iload_n K 0 dX2_greatest_8 rfl ?_
    refine z_callS (ws' := []) (st' := [.int (z_b (hs w (nI k)))]) (rest := []) K (m_X2_has l G D cI cJ w (nI k) ) gX2_greatest_X2_has rfl 2 (by decide +kernel) dX2_greatest_9 [] [] [] rfl rfl rfl ⟨by decide, by decide⟩ ⟨by decide, by decide⟩ rfl rfl rfl rfl (Nat.le_of_ble_eq_true rfl) rfl rfl rfl rfl ?_
    refine z_if_eqB K 17 dX2_greatest_12 (by decide) (fun c12 => ?_) (fun c12 => ?_)
    · refine z_iinc (lv' := [(1, .int (gi k)), (0, .int w)]) (v := gi k) K 0 dX2_greatest_17 rfl (gi_dec k) (by decide) rfl ?_
      refine z_goto K 3 dX2_greatest_20 (by decide) ?_
      exact ih (by rw [hg, grF, if_neg (by rw [c12]; decide)])
    · refine z_iload_n K 0 dX2_greatest_15 rfl ?_
      exact z_iret K dX2_greatest_16 (by rw [hg, grF, if_pos c12]) [] rfl (by decide) (by decide)

set_option maxRecDepth 100000 in
set_option maxHeartbeats 4000000 in
theorem m_X2_nearestAncestor (l : Launch) (G : Nat → Prop) (D : va_G) (cI cJ : ClassId) (aX : Nat) (w : Int32) (x : Int32) (aB : Nat) (aL : Nat) (aT : Nat) (se : Int32) (n : Nat) (aB0 : Nat) (aB1 : Nat) (aB2 : Nat) (aB3 : Nat) (aB4 : Nat) (aB5 : Nat) (fa : Nat → Int32) (hn : n ≤ 20) : z_MX l yX2_nearestAncestor wsX2_nearestAncestor { frames := 7, cells := 6, slots := 36, locals := 103 } G D [(cI, .int), (cJ, .long)] [.ref aX, .int w, .int x] [(aX, .inr (2, [.ref aB, .ref aL, .ref aT, .int se])), (aB, .inr (0, [.int (nI n), .ref aB0, .ref aB1, .ref aB2, .ref aB3, .ref aB4, .ref aB5])), (aB5, .inl (cI, 20, .inl fa))] (cd1 (fin w n && fin x n) = 0) (some (.int (grF ((fa (ix w)) &&& (fa (ix x))) 20))) [] (z_exc z_IOB z_ISE (cd1 (fin w n && fin x n))) [] 6 36 := by
  have iX2 : ∀ w ∈ u_ws RX2 TX2 4, w ∈ wsX2_nearestAncestor := fun w h => List.mem_cons_of_mem _ (List.mem_append_left _ (List.mem_append_left _ (List.mem_append_right _ h)))
  have iX0 : ∀ w ∈ u_ws RX0 TX0 7, w ∈ wsX2_nearestAncestor := fun w h => List.mem_cons_of_mem _ (List.mem_append_left _ (List.mem_append_right _ h))
  have t242 : ∀ w ∈ (vx_atS "FableIndex" 242 z_IOB ["java/lang/RuntimeException", "java/lang/Exception"]).filter goodWord, w ∈ wsX2_nearestAncestor := fun w h => List.mem_cons_of_mem _ (List.mem_append_right _ h)
  refine z_ofWX (cc := cX2_nearestAncestor) (nL := 3) (ret := (some .int)) (by decide) rfl (Nat.le_of_ble_eq_true rfl) [] rfl (lv0 := [(0, .ref aX), (1, .int w), (2, .int x)]) rfl ?_
  intro p e s m args below meth c K htab
  refine z_aload_n K 0 dX2_nearestAncestor_0 rfl ?_
  refine z_iload_n K 1 dX2_nearestAncestor_1 rfl ?_
  refine z_callVX (ws' := [(aX, .inr (2, [.ref aB, .ref aL, .ref aT, .int se])), (aB, .inr (0, [.int (nI n), .ref aB0, .ref aB1, .ref aB2, .ref aB3, .ref aB4, .ref aB5])), (aB5, .inl (cI, 20, .inl fa))]) (st' := []) (rest := []) (C := RX2) (T := TX2) (N := 4) K (m_X2_needFable l G D cI cJ aX w aB aL aT se n aB0 aB1 aB2 aB3 aB4 aB5 (by omega)) gX2_nearestAncestor_X2_needFable rfl 1 2 (by decide +kernel) rfl dX2_nearestAncestor_2 [0, 1] 0 [] [] rfl rfl rfl ⟨by decide, by decide⟩ ⟨by decide, by decide⟩ rfl rfl rfl rfl rfl (Nat.le_of_ble_eq_true rfl) rfl rfl rfl rfl rfl rfl rfl (fun E hE => zx_out K htab rfl (by obtain ⟨rfl, h9⟩ := hE; simp [z_exc, cd1, h9]) [] rfl (by decide) (by decide)) (fun k2 => ?_)
  obtain ⟨jw, hjw, rfl⟩ := fin_ix k2 (by omega)
  have ejw : ix (nI jw) = jw := ix_nI (by omega)
  refine z_aload_n K 0 dX2_nearestAncestor_5 rfl ?_
  refine z_iload_n K 2 dX2_nearestAncestor_6 rfl ?_
  refine z_callVX (ws' := [(aX, .inr (2, [.ref aB, .ref aL, .ref aT, .int se])), (aB, .inr (0, [.int (nI n), .ref aB0, .ref aB1, .ref aB2, .ref aB3, .ref aB4, .ref aB5])), (aB5, .inl (cI, 20, .inl fa))]) (st' := []) (rest := []) (C := RX2) (T := TX2) (N := 4) K (m_X2_needFable l G D cI cJ aX x aB aL aT se n aB0 aB1 aB2 aB3 aB4 aB5 (by omega)) gX2_nearestAncestor_X2_needFable rfl 1 2 (by decide +kernel) rfl dX2_nearestAncestor_7 [0, 1] 0 [] [] rfl rfl rfl ⟨by decide, by decide⟩ ⟨by decide, by decide⟩ rfl rfl rfl rfl rfl (Nat.le_of_ble_eq_true rfl) rfl rfl rfl rfl rfl rfl rfl (fun E hE => zx_out K htab rfl (by obtain ⟨rfl, h9⟩ := hE; simp [z_exc, cd1, k2, ejw, h9]) [] rfl (by decide) (by decide)) (fun k7 => ?_)
  obtain ⟨jx, hjx, rfl⟩ := fin_ix k7 (by omega)
  have ejx : ix (nI jx) = jx := ix_nI (by omega)
  refine z_aload_n K 0 dX2_nearestAncestor_10 rfl ?_
  refine z_get (C := RX2) (T := TX2) (N := 4) (ci := 2) K iX2 rfl 0 rfl 0 (by decide) (by decide +kernel) rfl rfl dX2_nearestAncestor_11 ?_
  refine z_get (C := RX0) (T := TX0) (N := 7) (ci := 0) K iX0 rfl 1 rfl 6 (by decide) (by decide +kernel) rfl rfl dX2_nearestAncestor_14 ?_
  refine z_iload_n K 1 dX2_nearestAncestor_17 rfl ?_
  refine z_ialdN K 2 0 jw (by omega) (by omega) rfl rfl dX2_nearestAncestor_18 ?_
  refine z_aload_n K 0 dX2_nearestAncestor_19 rfl ?_
  refine z_get (C := RX2) (T := TX2) (N := 4) (ci := 2) K iX2 rfl 0 rfl 0 (by decide) (by decide +kernel) rfl rfl dX2_nearestAncestor_20 ?_
  refine z_get (C := RX0) (T := TX0) (N := 7) (ci := 0) K iX0 rfl 1 rfl 6 (by decide) (by decide +kernel) rfl rfl dX2_nearestAncestor_23 ?_
  refine z_iload_n K 2 dX2_nearestAncestor_26 rfl ?_
  refine z_ialdN K 2 0 jx (by omega) (by omega) rfl rfl dX2_nearestAncestor_27 ?_
  refine z_iand K dX2_nearestAncestor_28 ?_
  refine z_callS (ws' := [(aX, .inr (2, [.ref aB, .ref aL, .ref aT, .int se])), (aB, .inr (0, [.int (nI n), .ref aB0, .ref aB1, .ref aB2, .ref aB3, .ref aB4, .ref aB5])), (aB5, .inl (cI, 20, .inl fa))]) (st' := [.int (grF ((fa jw) &&& (fa jx)) 20)]) (rest := []) K (m_X2_greatest l G D cI cJ ((fa jw) &&& (fa jx)) ) gX2_nearestAncestor_X2_greatest rfl 1 (by decide +kernel) dX2_nearestAncestor_29 [] [] [] rfl rfl rfl ⟨by decide, by decide⟩ ⟨by decide, by decide⟩ rfl rfl rfl rfl (Nat.le_of_ble_eq_true rfl) rfl rfl rfl rfl ?_
  exact z_iretX K (by simp [cd1, k2, ejw, k7, ejx]) dX2_nearestAncestor_32 ((by first | (simp only [k2, ejw, k7, ejx, Bool.false_eq_true, if_false, if_true, ↓reduceIte]; done) | rfl | simp [k2, ejw, k7, ejx])) [] rfl (by decide) (by decide)

set_option maxRecDepth 100000 in
set_option maxHeartbeats 4000000 in
theorem m_X2_kinship (l : Launch) (G : Nat → Prop) (D : va_G) (cI cJ : ClassId) (aX : Nat) (w : Int32) (x : Int32) (aB : Nat) (aL : Nat) (aT : Nat) (se : Int32) (n : Nat) (aB0 : Nat) (aB1 : Nat) (aB2 : Nat) (aB3 : Nat) (aB4 : Nat) (aB5 : Nat) (fa : Nat → Int32) (hn : n ≤ 20) : z_MX l yX2_kinship wsX2_kinship { frames := 7, cells := 6, slots := 36, locals := 103 } G D [(cI, .int), (cJ, .long)] [.ref aX, .int w, .int x] [(aX, .inr (2, [.ref aB, .ref aL, .ref aT, .int se])), (aB, .inr (0, [.int (nI n), .ref aB0, .ref aB1, .ref aB2, .ref aB3, .ref aB4, .ref aB5])), (aB5, .inl (cI, 20, .inl fa))] (cd1 (fin w n && fin x n) = 0) (some (.int (kinS (fa (ix w)) (fa (ix x))))) [] (z_exc z_IOB z_ISE (cd1 (fin w n && fin x n))) [] 6 36 := by
  have iX2 : ∀ w ∈ u_ws RX2 TX2 4, w ∈ wsX2_kinship := fun w h => List.mem_cons_of_mem _ (List.mem_append_left _ (List.mem_append_left _ (List.mem_append_right _ h)))
  have iX0 : ∀ w ∈ u_ws RX0 TX0 7, w ∈ wsX2_kinship := fun w h => List.mem_cons_of_mem _ (List.mem_append_left _ (List.mem_append_right _ h))
  have t242 : ∀ w ∈ (vx_atS "FableIndex" 242 z_IOB ["java/lang/RuntimeException", "java/lang/Exception"]).filter goodWord, w ∈ wsX2_kinship := fun w h => List.mem_cons_of_mem _ (List.mem_append_right _ h)
  refine z_ofWX (cc := cX2_kinship) (nL := 3) (ret := (some .int)) (by decide) rfl (Nat.le_of_ble_eq_true rfl) [] rfl (lv0 := [(0, .ref aX), (1, .int w), (2, .int x)]) rfl ?_
  intro p e s m args below meth c K htab
  refine z_aload_n K 0 dX2_kinship_0 rfl ?_
  refine z_iload_n K 1 dX2_kinship_1 rfl ?_
  refine z_callVX (ws' := [(aX, .inr (2, [.ref aB, .ref aL, .ref aT, .int se])), (aB, .inr (0, [.int (nI n), .ref aB0, .ref aB1, .ref aB2, .ref aB3, .ref aB4, .ref aB5])), (aB5, .inl (cI, 20, .inl fa))]) (st' := []) (rest := []) (C := RX2) (T := TX2) (N := 4) K (m_X2_needFable l G D cI cJ aX w aB aL aT se n aB0 aB1 aB2 aB3 aB4 aB5 (by omega)) gX2_kinship_X2_needFable rfl 1 2 (by decide +kernel) rfl dX2_kinship_2 [0, 1] 0 [] [] rfl rfl rfl ⟨by decide, by decide⟩ ⟨by decide, by decide⟩ rfl rfl rfl rfl rfl (Nat.le_of_ble_eq_true rfl) rfl rfl rfl rfl rfl rfl rfl (fun E hE => zx_out K htab rfl (by obtain ⟨rfl, h9⟩ := hE; simp [z_exc, cd1, h9]) [] rfl (by decide) (by decide)) (fun k2 => ?_)
  obtain ⟨jw, hjw, rfl⟩ := fin_ix k2 (by omega)
  have ejw : ix (nI jw) = jw := ix_nI (by omega)
  refine z_aload_n K 0 dX2_kinship_5 rfl ?_
  refine z_iload_n K 2 dX2_kinship_6 rfl ?_
  refine z_callVX (ws' := [(aX, .inr (2, [.ref aB, .ref aL, .ref aT, .int se])), (aB, .inr (0, [.int (nI n), .ref aB0, .ref aB1, .ref aB2, .ref aB3, .ref aB4, .ref aB5])), (aB5, .inl (cI, 20, .inl fa))]) (st' := []) (rest := []) (C := RX2) (T := TX2) (N := 4) K (m_X2_needFable l G D cI cJ aX x aB aL aT se n aB0 aB1 aB2 aB3 aB4 aB5 (by omega)) gX2_kinship_X2_needFable rfl 1 2 (by decide +kernel) rfl dX2_kinship_7 [0, 1] 0 [] [] rfl rfl rfl ⟨by decide, by decide⟩ ⟨by decide, by decide⟩ rfl rfl rfl rfl rfl (Nat.le_of_ble_eq_true rfl) rfl rfl rfl rfl rfl rfl rfl (fun E hE => zx_out K htab rfl (by obtain ⟨rfl, h9⟩ := hE; simp [z_exc, cd1, k2, ejw, h9]) [] rfl (by decide) (by decide)) (fun k7 => ?_)
  obtain ⟨jx, hjx, rfl⟩ := fin_ix k7 (by omega)
  have ejx : ix (nI jx) = jx := ix_nI (by omega)
  refine z_aload_n K 0 dX2_kinship_10 rfl ?_
  refine z_get (C := RX2) (T := TX2) (N := 4) (ci := 2) K iX2 rfl 0 rfl 0 (by decide) (by decide +kernel) rfl rfl dX2_kinship_11 ?_
  refine z_get (C := RX0) (T := TX0) (N := 7) (ci := 0) K iX0 rfl 1 rfl 6 (by decide) (by decide +kernel) rfl rfl dX2_kinship_14 ?_
  refine z_iload_n K 1 dX2_kinship_17 rfl ?_
  refine z_ialdN K 2 0 jw (by omega) (by omega) rfl rfl dX2_kinship_18 ?_
  refine z_aload_n K 0 dX2_kinship_19 rfl ?_
  refine z_get (C := RX2) (T := TX2) (N := 4) (ci := 2) K iX2 rfl 0 rfl 0 (by decide) (by decide +kernel) rfl rfl dX2_kinship_20 ?_
  refine z_get (C := RX0) (T := TX0) (N := 7) (ci := 0) K iX0 rfl 1 rfl 6 (by decide) (by decide +kernel) rfl rfl dX2_kinship_23 ?_
  refine z_iload_n K 2 dX2_kinship_26 rfl ?_
  refine z_ialdN K 2 0 jx (by omega) (by omega) rfl rfl dX2_kinship_27 ?_
  refine z_iand K dX2_kinship_28 ?_
  refine z_if_ne K 34 dX2_kinship_29 (by decide) (fun c29 => ?_) (fun c29 => ?_)
  · refine z_aload_n K 0 dX2_kinship_34 rfl ?_
    refine z_get (C := RX2) (T := TX2) (N := 4) (ci := 2) K iX2 rfl 0 rfl 0 (by decide) (by decide +kernel) rfl rfl dX2_kinship_35 ?_
    refine z_get (C := RX0) (T := TX0) (N := 7) (ci := 0) K iX0 rfl 1 rfl 6 (by decide) (by decide +kernel) rfl rfl dX2_kinship_38 ?_
    refine z_iload_n K 1 dX2_kinship_41 rfl ?_
    refine z_ialdN K 2 0 jw (by omega) (by omega) rfl rfl dX2_kinship_42 ?_
    refine z_aload_n K 0 dX2_kinship_43 rfl ?_
    refine z_get (C := RX2) (T := TX2) (N := 4) (ci := 2) K iX2 rfl 0 rfl 0 (by decide) (by decide +kernel) rfl rfl dX2_kinship_44 ?_
    refine z_get (C := RX0) (T := TX0) (N := 7) (ci := 0) K iX0 rfl 1 rfl 6 (by decide) (by decide +kernel) rfl rfl dX2_kinship_47 ?_
    refine z_iload_n K 2 dX2_kinship_50 rfl ?_
    refine z_ialdN K 2 0 jx (by omega) (by omega) rfl rfl dX2_kinship_51 ?_
    refine z_ixor K dX2_kinship_52 ?_
    refine z_callS (ws' := [(aX, .inr (2, [.ref aB, .ref aL, .ref aT, .int se])), (aB, .inr (0, [.int (nI n), .ref aB0, .ref aB1, .ref aB2, .ref aB3, .ref aB4, .ref aB5])), (aB5, .inl (cI, 20, .inl fa))]) (st' := [.int (pc ((fa jw) ^^^ (fa jx)))]) (rest := []) K (m_X2_size l G D cI cJ ((fa jw) ^^^ (fa jx)) ) gX2_kinship_X2_size rfl 1 (by decide +kernel) dX2_kinship_53 [] [] [] rfl rfl rfl ⟨by decide, by decide⟩ ⟨by decide, by decide⟩ rfl rfl rfl rfl (Nat.le_of_ble_eq_true rfl) rfl rfl rfl rfl ?_
    exact z_iretX K (by simp [cd1, k2, ejw, k7, ejx, c29]) dX2_kinship_56 ((by first | (simp only [kinS, k2, ejw, k7, ejx, c29, Bool.false_eq_true, if_false, if_true, ↓reduceIte]; done) | rfl | simp [kinS, k2, ejw, k7, ejx, c29])) [] rfl (by decide) (by decide)
  · refine z_iconst (v := (-1)) K dX2_kinship_32 (by decide) ?_
    exact z_iretX K (by simp [cd1, k2, ejw, k7, ejx, c29]) dX2_kinship_33 ((by first | (simp only [kinS, k2, ejw, k7, ejx, c29, Bool.false_eq_true, if_false, if_true, ↓reduceIte]; done) | rfl | simp [kinS, k2, ejw, k7, ejx, c29])) [] rfl (by decide) (by decide)

set_option maxRecDepth 100000 in
set_option maxHeartbeats 4000000 in
theorem m_X2_sharedBeasts (l : Launch) (G : Nat → Prop) (D : va_G) (cI cJ : ClassId) (aX : Nat) (w : Int32) (x : Int32) (aB : Nat) (aL : Nat) (aT : Nat) (se : Int32) (n : Nat) (aB0 : Nat) (aB1 : Nat) (aB2 : Nat) (aB3 : Nat) (aB4 : Nat) (aB5 : Nat) (fb : Nat → Int32) (hn : n ≤ 20) : z_MX l yX2_sharedBeasts wsX2_sharedBeasts { frames := 7, cells := 6, slots := 36, locals := 103 } G D [(cI, .int), (cJ, .long)] [.ref aX, .int w, .int x] [(aX, .inr (2, [.ref aB, .ref aL, .ref aT, .int se])), (aB, .inr (0, [.int (nI n), .ref aB0, .ref aB1, .ref aB2, .ref aB3, .ref aB4, .ref aB5])), (aB1, .inl (cI, 20, .inl fb))] (cd1 (fin w n && fin x n) = 0) (some (.int (pc ((fb (ix w)) &&& (fb (ix x)))))) [] (z_exc z_IOB z_ISE (cd1 (fin w n && fin x n))) [] 6 36 := by
  have iX2 : ∀ w ∈ u_ws RX2 TX2 4, w ∈ wsX2_sharedBeasts := fun w h => List.mem_cons_of_mem _ (List.mem_append_left _ (List.mem_append_left _ (List.mem_append_right _ h)))
  have iX0 : ∀ w ∈ u_ws RX0 TX0 7, w ∈ wsX2_sharedBeasts := fun w h => List.mem_cons_of_mem _ (List.mem_append_left _ (List.mem_append_right _ h))
  have t242 : ∀ w ∈ (vx_atS "FableIndex" 242 z_IOB ["java/lang/RuntimeException", "java/lang/Exception"]).filter goodWord, w ∈ wsX2_sharedBeasts := fun w h => List.mem_cons_of_mem _ (List.mem_append_right _ h)
  refine z_ofWX (cc := cX2_sharedBeasts) (nL := 3) (ret := (some .int)) (by decide) rfl (Nat.le_of_ble_eq_true rfl) [] rfl (lv0 := [(0, .ref aX), (1, .int w), (2, .int x)]) rfl ?_
  intro p e s m args below meth c K htab
  refine z_aload_n K 0 dX2_sharedBeasts_0 rfl ?_
  refine z_iload_n K 1 dX2_sharedBeasts_1 rfl ?_
  refine z_callVX (ws' := [(aX, .inr (2, [.ref aB, .ref aL, .ref aT, .int se])), (aB, .inr (0, [.int (nI n), .ref aB0, .ref aB1, .ref aB2, .ref aB3, .ref aB4, .ref aB5])), (aB1, .inl (cI, 20, .inl fb))]) (st' := []) (rest := []) (C := RX2) (T := TX2) (N := 4) K (m_X2_needFable l G D cI cJ aX w aB aL aT se n aB0 aB1 aB2 aB3 aB4 aB5 (by omega)) gX2_sharedBeasts_X2_needFable rfl 1 2 (by decide +kernel) rfl dX2_sharedBeasts_2 [0, 1] 0 [] [] rfl rfl rfl ⟨by decide, by decide⟩ ⟨by decide, by decide⟩ rfl rfl rfl rfl rfl (Nat.le_of_ble_eq_true rfl) rfl rfl rfl rfl rfl rfl rfl (fun E hE => zx_out K htab rfl (by obtain ⟨rfl, h9⟩ := hE; simp [z_exc, cd1, h9]) [] rfl (by decide) (by decide)) (fun k2 => ?_)
  obtain ⟨jw, hjw, rfl⟩ := fin_ix k2 (by omega)
  have ejw : ix (nI jw) = jw := ix_nI (by omega)
  refine z_aload_n K 0 dX2_sharedBeasts_5 rfl ?_
  refine z_iload_n K 2 dX2_sharedBeasts_6 rfl ?_
  refine z_callVX (ws' := [(aX, .inr (2, [.ref aB, .ref aL, .ref aT, .int se])), (aB, .inr (0, [.int (nI n), .ref aB0, .ref aB1, .ref aB2, .ref aB3, .ref aB4, .ref aB5])), (aB1, .inl (cI, 20, .inl fb))]) (st' := []) (rest := []) (C := RX2) (T := TX2) (N := 4) K (m_X2_needFable l G D cI cJ aX x aB aL aT se n aB0 aB1 aB2 aB3 aB4 aB5 (by omega)) gX2_sharedBeasts_X2_needFable rfl 1 2 (by decide +kernel) rfl dX2_sharedBeasts_7 [0, 1] 0 [] [] rfl rfl rfl ⟨by decide, by decide⟩ ⟨by decide, by decide⟩ rfl rfl rfl rfl rfl (Nat.le_of_ble_eq_true rfl) rfl rfl rfl rfl rfl rfl rfl (fun E hE => zx_out K htab rfl (by obtain ⟨rfl, h9⟩ := hE; simp [z_exc, cd1, k2, ejw, h9]) [] rfl (by decide) (by decide)) (fun k7 => ?_)
  obtain ⟨jx, hjx, rfl⟩ := fin_ix k7 (by omega)
  have ejx : ix (nI jx) = jx := ix_nI (by omega)
  refine z_aload_n K 0 dX2_sharedBeasts_10 rfl ?_
  refine z_get (C := RX2) (T := TX2) (N := 4) (ci := 2) K iX2 rfl 0 rfl 0 (by decide) (by decide +kernel) rfl rfl dX2_sharedBeasts_11 ?_
  refine z_get (C := RX0) (T := TX0) (N := 7) (ci := 0) K iX0 rfl 1 rfl 2 (by decide) (by decide +kernel) rfl rfl dX2_sharedBeasts_14 ?_
  refine z_iload_n K 1 dX2_sharedBeasts_17 rfl ?_
  refine z_ialdN K 2 0 jw (by omega) (by omega) rfl rfl dX2_sharedBeasts_18 ?_
  refine z_aload_n K 0 dX2_sharedBeasts_19 rfl ?_
  refine z_get (C := RX2) (T := TX2) (N := 4) (ci := 2) K iX2 rfl 0 rfl 0 (by decide) (by decide +kernel) rfl rfl dX2_sharedBeasts_20 ?_
  refine z_get (C := RX0) (T := TX0) (N := 7) (ci := 0) K iX0 rfl 1 rfl 2 (by decide) (by decide +kernel) rfl rfl dX2_sharedBeasts_23 ?_
  refine z_iload_n K 2 dX2_sharedBeasts_26 rfl ?_
  refine z_ialdN K 2 0 jx (by omega) (by omega) rfl rfl dX2_sharedBeasts_27 ?_
  refine z_iand K dX2_sharedBeasts_28 ?_
  refine z_callS (ws' := [(aX, .inr (2, [.ref aB, .ref aL, .ref aT, .int se])), (aB, .inr (0, [.int (nI n), .ref aB0, .ref aB1, .ref aB2, .ref aB3, .ref aB4, .ref aB5])), (aB1, .inl (cI, 20, .inl fb))]) (st' := [.int (pc ((fb jw) &&& (fb jx)))]) (rest := []) K (m_X2_size l G D cI cJ ((fb jw) &&& (fb jx)) ) gX2_sharedBeasts_X2_size rfl 1 (by decide +kernel) dX2_sharedBeasts_29 [] [] [] rfl rfl rfl ⟨by decide, by decide⟩ ⟨by decide, by decide⟩ rfl rfl rfl rfl (Nat.le_of_ble_eq_true rfl) rfl rfl rfl rfl ?_
  exact z_iretX K (by simp [cd1, k2, ejw, k7, ejx]) dX2_sharedBeasts_32 ((by first | (simp only [k2, ejw, k7, ejx, Bool.false_eq_true, if_false, if_true, ↓reduceIte]; done) | rfl | simp [k2, ejw, k7, ejx])) [] rfl (by decide) (by decide)

set_option maxRecDepth 100000 in
set_option maxHeartbeats 4000000 in
theorem m_X2_isOpen (l : Launch) (G : Nat → Prop) (D : va_G) (cI cJ : ClassId) (aX : Nat) (w : Int32) (x : Int32) (aB : Nat) (aL : Nat) (aT : Nat) (se : Int32) (aL0 : Nat) (aL1 : Nat) (aL2 : Nat) (aL3 : Nat) (aL4 : Nat) (aL5 : Nat) (hu : Int32) (lw : Nat → Int32)  : z_MX l yX2_isOpen wsX2_isOpen { frames := 7, cells := 6, slots := 36, locals := 102 } G D [(cI, .int), (cJ, .long)] [.ref aX, .int w, .int x] [(aX, .inr (2, [.ref aB, .ref aL, .ref aT, .int se])), (aL, .inr (1, [.ref aL0, .ref aL1, .ref aL2, .ref aL3, .ref aL4, .ref aL5, .int hu])), (aL0, .inl (cI, 6, .inl lw))] (cd1 (fin w 6 && fin x 6) = 0) (some (.int (z_b (hs (lw (ix w)) x)))) [] (z_exc z_IOB z_ISE (cd1 (fin w 6 && fin x 6))) [] 6 36 := by
  have iX2 : ∀ w ∈ u_ws RX2 TX2 4, w ∈ wsX2_isOpen := fun w h => List.mem_cons_of_mem _ (List.mem_append_left _ (List.mem_append_left _ (List.mem_append_right _ h)))
  have iX1 : ∀ w ∈ u_ws RX1 TX1 7, w ∈ wsX2_isOpen := fun w h => List.mem_cons_of_mem _ (List.mem_append_left _ (List.mem_append_right _ h))
  have t242 : ∀ w ∈ (vx_atS "FableIndex" 242 z_IOB ["java/lang/RuntimeException", "java/lang/Exception"]).filter goodWord, w ∈ wsX2_isOpen := fun w h => List.mem_cons_of_mem _ (List.mem_append_right _ h)
  refine z_ofWX (cc := cX2_isOpen) (nL := 3) (ret := (some .boolean)) (by decide) rfl (Nat.le_of_ble_eq_true rfl) [] rfl (lv0 := [(0, .ref aX), (1, .int w), (2, .int x)]) rfl ?_
  intro p e s m args below meth c K htab
  refine z_iload_n K 1 dX2_isOpen_0 rfl ?_
  refine z_callSX (ws' := [(aX, .inr (2, [.ref aB, .ref aL, .ref aT, .int se])), (aL, .inr (1, [.ref aL0, .ref aL1, .ref aL2, .ref aL3, .ref aL4, .ref aL5, .int hu])), (aL0, .inl (cI, 6, .inl lw))]) (st' := []) (rest := []) K (m_X2_needValley l G D cI cJ w ) gX2_isOpen_X2_needValley rfl 1 (by decide +kernel) dX2_isOpen_1 [] [] [] rfl rfl rfl ⟨by decide, by decide⟩ ⟨by decide, by decide⟩ rfl rfl rfl rfl (Nat.le_of_ble_eq_true rfl) rfl rfl rfl rfl rfl rfl rfl (fun E hE => zx_out K htab rfl (by obtain ⟨rfl, h9⟩ := hE; simp [z_exc, cd1, h9]) [] rfl (by decide) (by decide)) (fun k1 => ?_)
  obtain ⟨jw, hjw, rfl⟩ := fin_ix k1 (by omega)
  have ejw : ix (nI jw) = jw := ix_nI (by omega)
  refine z_iload_n K 2 dX2_isOpen_4 rfl ?_
  refine z_callSX (ws' := [(aX, .inr (2, [.ref aB, .ref aL, .ref aT, .int se])), (aL, .inr (1, [.ref aL0, .ref aL1, .ref aL2, .ref aL3, .ref aL4, .ref aL5, .int hu])), (aL0, .inl (cI, 6, .inl lw))]) (st' := []) (rest := []) K (m_X2_needValley l G D cI cJ x ) gX2_isOpen_X2_needValley rfl 1 (by decide +kernel) dX2_isOpen_5 [] [] [] rfl rfl rfl ⟨by decide, by decide⟩ ⟨by decide, by decide⟩ rfl rfl rfl rfl (Nat.le_of_ble_eq_true rfl) rfl rfl rfl rfl rfl rfl rfl (fun E hE => zx_out K htab rfl (by obtain ⟨rfl, h9⟩ := hE; simp [z_exc, cd1, k1, ejw, h9]) [] rfl (by decide) (by decide)) (fun k5 => ?_)
  obtain ⟨jx, hjx, rfl⟩ := fin_ix k5 (by omega)
  have ejx : ix (nI jx) = jx := ix_nI (by omega)
  refine z_aload_n K 0 dX2_isOpen_8 rfl ?_
  refine z_get (C := RX2) (T := TX2) (N := 4) (ci := 2) K iX2 rfl 0 rfl 1 (by decide) (by decide +kernel) rfl rfl dX2_isOpen_9 ?_
  refine z_get (C := RX1) (T := TX1) (N := 7) (ci := 1) K iX1 rfl 1 rfl 0 (by decide) (by decide +kernel) rfl rfl dX2_isOpen_12 ?_
  refine z_iload_n K 1 dX2_isOpen_15 rfl ?_
  refine z_ialdN K 2 0 jw (by omega) (by omega) rfl rfl dX2_isOpen_16 ?_
  refine z_iload_n K 2 dX2_isOpen_17 rfl ?_
  refine z_callS (ws' := [(aX, .inr (2, [.ref aB, .ref aL, .ref aT, .int se])), (aL, .inr (1, [.ref aL0, .ref aL1, .ref aL2, .ref aL3, .ref aL4, .ref aL5, .int hu])), (aL0, .inl (cI, 6, .inl lw))]) (st' := [.int (z_b (hs (lw jw) (nI jx)))]) (rest := []) K (m_X2_has l G D cI cJ (lw jw) (nI jx) ) gX2_isOpen_X2_has rfl 2 (by decide +kernel) dX2_isOpen_18 [] [] [] rfl rfl rfl ⟨by decide, by decide⟩ ⟨by decide, by decide⟩ rfl rfl rfl rfl (Nat.le_of_ble_eq_true rfl) rfl rfl rfl rfl ?_
  exact z_zretX K (by simp [cd1, k1, ejw, k5, ejx]) dX2_isOpen_21 ((by first | (simp only [k1, ejw, k5, ejx, Bool.false_eq_true, if_false, if_true, ↓reduceIte]; done) | rfl | simp [k1, ejw, k5, ejx])) [] rfl (by decide) (by decide)

set_option maxRecDepth 100000 in
set_option maxHeartbeats 4000000 in
theorem m_X2_isBanned (l : Launch) (G : Nat → Prop) (D : va_G) (cI cJ : ClassId) (aX : Nat) (w : Int32) (x : Int32) (aB : Nat) (aL : Nat) (aT : Nat) (se : Int32) (n : Nat) (aB0 : Nat) (aB1 : Nat) (aB2 : Nat) (aB3 : Nat) (aB4 : Nat) (aB5 : Nat) (fm : Nat → Int32) (fb : Nat → Int32) (aL0 : Nat) (aL1 : Nat) (aL2 : Nat) (aL3 : Nat) (aL4 : Nat) (aL5 : Nat) (hu : Int32) (lm : Nat → Int32) (lb : Nat → Int32) (hn : n ≤ 20) : z_MX l yX2_isBanned wsX2_isBanned { frames := 7, cells := 6, slots := 36, locals := 103 } G D [(cI, .int), (cJ, .long)] [.ref aX, .int w, .int x] [(aX, .inr (2, [.ref aB, .ref aL, .ref aT, .int se])), (aB, .inr (0, [.int (nI n), .ref aB0, .ref aB1, .ref aB2, .ref aB3, .ref aB4, .ref aB5])), (aB0, .inl (cI, 20, .inl fm)), (aB1, .inl (cI, 20, .inl fb)), (aL, .inr (1, [.ref aL0, .ref aL1, .ref aL2, .ref aL3, .ref aL4, .ref aL5, .int hu])), (aL1, .inl (cI, 6, .inl lm)), (aL2, .inl (cI, 6, .inl lb))] (cd1 (fin w n && fin x 6) = 0) (some (.int (z_b (ban lm lb fm fb (ix w) (ix x))))) [] (z_exc z_IOB z_ISE (cd1 (fin w n && fin x 6))) [] 6 36 := by
  have iX2 : ∀ w ∈ u_ws RX2 TX2 4, w ∈ wsX2_isBanned := fun w h => List.mem_cons_of_mem _ (List.mem_append_left _ (List.mem_append_left _ (List.mem_append_left _ (List.mem_append_right _ h))))
  have iX0 : ∀ w ∈ u_ws RX0 TX0 7, w ∈ wsX2_isBanned := fun w h => List.mem_cons_of_mem _ (List.mem_append_left _ (List.mem_append_left _ (List.mem_append_right _ h)))
  have iX1 : ∀ w ∈ u_ws RX1 TX1 7, w ∈ wsX2_isBanned := fun w h => List.mem_cons_of_mem _ (List.mem_append_left _ (List.mem_append_right _ h))
  have t242 : ∀ w ∈ (vx_atS "FableIndex" 242 z_IOB ["java/lang/RuntimeException", "java/lang/Exception"]).filter goodWord, w ∈ wsX2_isBanned := fun w h => List.mem_cons_of_mem _ (List.mem_append_right _ h)
  refine z_ofWX (cc := cX2_isBanned) (nL := 3) (ret := (some .boolean)) (by decide) rfl (Nat.le_of_ble_eq_true rfl) [] rfl (lv0 := [(0, .ref aX), (1, .int w), (2, .int x)]) rfl ?_
  intro p e s m args below meth c K htab
  refine z_aload_n K 0 dX2_isBanned_0 rfl ?_
  refine z_iload_n K 1 dX2_isBanned_1 rfl ?_
  refine z_callVX (ws' := [(aX, .inr (2, [.ref aB, .ref aL, .ref aT, .int se])), (aB, .inr (0, [.int (nI n), .ref aB0, .ref aB1, .ref aB2, .ref aB3, .ref aB4, .ref aB5])), (aB0, .inl (cI, 20, .inl fm)), (aB1, .inl (cI, 20, .inl fb)), (aL, .inr (1, [.ref aL0, .ref aL1, .ref aL2, .ref aL3, .ref aL4, .ref aL5, .int hu])), (aL1, .inl (cI, 6, .inl lm)), (aL2, .inl (cI, 6, .inl lb))]) (st' := []) (rest := []) (C := RX2) (T := TX2) (N := 4) K (m_X2_needFable l G D cI cJ aX w aB aL aT se n aB0 aB1 aB2 aB3 aB4 aB5 (by omega)) gX2_isBanned_X2_needFable rfl 1 2 (by decide +kernel) rfl dX2_isBanned_2 [0, 1] 0 [] [] rfl rfl rfl ⟨by decide, by decide⟩ ⟨by decide, by decide⟩ rfl rfl rfl rfl rfl (Nat.le_of_ble_eq_true rfl) rfl rfl rfl rfl rfl rfl rfl (fun E hE => zx_out K htab rfl (by obtain ⟨rfl, h9⟩ := hE; simp [z_exc, cd1, h9]) [] rfl (by decide) (by decide)) (fun k2 => ?_)
  obtain ⟨jw, hjw, rfl⟩ := fin_ix k2 (by omega)
  have ejw : ix (nI jw) = jw := ix_nI (by omega)
  refine z_iload_n K 2 dX2_isBanned_5 rfl ?_
  refine z_callSX (ws' := [(aX, .inr (2, [.ref aB, .ref aL, .ref aT, .int se])), (aB, .inr (0, [.int (nI n), .ref aB0, .ref aB1, .ref aB2, .ref aB3, .ref aB4, .ref aB5])), (aB0, .inl (cI, 20, .inl fm)), (aB1, .inl (cI, 20, .inl fb)), (aL, .inr (1, [.ref aL0, .ref aL1, .ref aL2, .ref aL3, .ref aL4, .ref aL5, .int hu])), (aL1, .inl (cI, 6, .inl lm)), (aL2, .inl (cI, 6, .inl lb))]) (st' := []) (rest := []) K (m_X2_needValley l G D cI cJ x ) gX2_isBanned_X2_needValley rfl 1 (by decide +kernel) dX2_isBanned_6 [] [] [] rfl rfl rfl ⟨by decide, by decide⟩ ⟨by decide, by decide⟩ rfl rfl rfl rfl (Nat.le_of_ble_eq_true rfl) rfl rfl rfl rfl rfl rfl rfl (fun E hE => zx_out K htab rfl (by obtain ⟨rfl, h9⟩ := hE; simp [z_exc, cd1, k2, ejw, h9]) [] rfl (by decide) (by decide)) (fun k6 => ?_)
  obtain ⟨jx, hjx, rfl⟩ := fin_ix k6 (by omega)
  have ejx : ix (nI jx) = jx := ix_nI (by omega)
  refine z_aload_n K 0 dX2_isBanned_9 rfl ?_
  refine z_get (C := RX2) (T := TX2) (N := 4) (ci := 2) K iX2 rfl 0 rfl 1 (by decide) (by decide +kernel) rfl rfl dX2_isBanned_10 ?_
  refine z_aload_n K 0 dX2_isBanned_13 rfl ?_
  refine z_get (C := RX2) (T := TX2) (N := 4) (ci := 2) K iX2 rfl 0 rfl 0 (by decide) (by decide +kernel) rfl rfl dX2_isBanned_14 ?_
  refine z_iload_n K 1 dX2_isBanned_17 rfl ?_
  refine z_iload_n K 2 dX2_isBanned_18 rfl ?_
  refine z_callV (ws' := [(aX, .inr (2, [.ref aB, .ref aL, .ref aT, .int se])), (aB, .inr (0, [.int (nI n), .ref aB0, .ref aB1, .ref aB2, .ref aB3, .ref aB4, .ref aB5])), (aB0, .inl (cI, 20, .inl fm)), (aB1, .inl (cI, 20, .inl fb)), (aL, .inr (1, [.ref aL0, .ref aL1, .ref aL2, .ref aL3, .ref aL4, .ref aL5, .int hu])), (aL1, .inl (cI, 6, .inl lm)), (aL2, .inl (cI, 6, .inl lb))]) (st' := [.int (z_b (ban lm lb fm fb jw jx))]) (rest := []) (C := RX1) (T := TX1) (N := 7) K (m_X1_bans l G D cI cJ aL aB jw jx aL0 aL1 aL2 aL3 aL4 aL5 hu lm lb n aB0 aB1 aB2 aB3 aB4 aB5 fm fb (by omega) (by omega)) gX2_isBanned_X1_bans rfl 3 1 (by decide +kernel) rfl dX2_isBanned_19 [4, 5, 6, 1, 2, 3] 4 [] [] rfl rfl rfl ⟨by decide, by decide⟩ ⟨by decide, by decide⟩ rfl rfl rfl rfl rfl (Nat.le_of_ble_eq_true rfl) rfl rfl rfl rfl ?_
  exact z_zretX K (by simp [cd1, k2, ejw, k6, ejx]) dX2_isBanned_22 ((by first | (simp only [k2, ejw, k6, ejx, Bool.false_eq_true, if_false, if_true, ↓reduceIte]; done) | rfl | simp [k2, ejw, k6, ejx])) [] rfl (by decide) (by decide)

set_option maxRecDepth 100000 in
set_option maxHeartbeats 4000000 in
theorem m_X2_isTold (l : Launch) (G : Nat → Prop) (D : va_G) (cI cJ : ClassId) (aX : Nat) (w : Int32) (x : Int32) (aB : Nat) (aL : Nat) (aT : Nat) (se : Int32) (n : Nat) (aB0 : Nat) (aB1 : Nat) (aB2 : Nat) (aB3 : Nat) (aB4 : Nat) (aB5 : Nat) (aL0 : Nat) (aL1 : Nat) (aL2 : Nat) (aL3 : Nat) (aL4 : Nat) (aL5 : Nat) (hu : Int32) (lt : Nat → Int32) (hn : n ≤ 20) : z_MX l yX2_isTold wsX2_isTold { frames := 7, cells := 6, slots := 36, locals := 103 } G D [(cI, .int), (cJ, .long)] [.ref aX, .int w, .int x] [(aX, .inr (2, [.ref aB, .ref aL, .ref aT, .int se])), (aB, .inr (0, [.int (nI n), .ref aB0, .ref aB1, .ref aB2, .ref aB3, .ref aB4, .ref aB5])), (aL, .inr (1, [.ref aL0, .ref aL1, .ref aL2, .ref aL3, .ref aL4, .ref aL5, .int hu])), (aL3, .inl (cI, 6, .inl lt))] (cd1 (fin w n && fin x 6) = 0) (some (.int (z_b (hs (lt (ix x)) w)))) [] (z_exc z_IOB z_ISE (cd1 (fin w n && fin x 6))) [] 6 36 := by
  have iX2 : ∀ w ∈ u_ws RX2 TX2 4, w ∈ wsX2_isTold := fun w h => List.mem_cons_of_mem _ (List.mem_append_left _ (List.mem_append_left _ (List.mem_append_left _ (List.mem_append_right _ h))))
  have iX1 : ∀ w ∈ u_ws RX1 TX1 7, w ∈ wsX2_isTold := fun w h => List.mem_cons_of_mem _ (List.mem_append_left _ (List.mem_append_left _ (List.mem_append_right _ h)))
  have iX0 : ∀ w ∈ u_ws RX0 TX0 7, w ∈ wsX2_isTold := fun w h => List.mem_cons_of_mem _ (List.mem_append_left _ (List.mem_append_right _ h))
  have t242 : ∀ w ∈ (vx_atS "FableIndex" 242 z_IOB ["java/lang/RuntimeException", "java/lang/Exception"]).filter goodWord, w ∈ wsX2_isTold := fun w h => List.mem_cons_of_mem _ (List.mem_append_right _ h)
  refine z_ofWX (cc := cX2_isTold) (nL := 3) (ret := (some .boolean)) (by decide) rfl (Nat.le_of_ble_eq_true rfl) [] rfl (lv0 := [(0, .ref aX), (1, .int w), (2, .int x)]) rfl ?_
  intro p e s m args below meth c K htab
  refine z_aload_n K 0 dX2_isTold_0 rfl ?_
  refine z_iload_n K 1 dX2_isTold_1 rfl ?_
  refine z_callVX (ws' := [(aX, .inr (2, [.ref aB, .ref aL, .ref aT, .int se])), (aB, .inr (0, [.int (nI n), .ref aB0, .ref aB1, .ref aB2, .ref aB3, .ref aB4, .ref aB5])), (aL, .inr (1, [.ref aL0, .ref aL1, .ref aL2, .ref aL3, .ref aL4, .ref aL5, .int hu])), (aL3, .inl (cI, 6, .inl lt))]) (st' := []) (rest := []) (C := RX2) (T := TX2) (N := 4) K (m_X2_needFable l G D cI cJ aX w aB aL aT se n aB0 aB1 aB2 aB3 aB4 aB5 (by omega)) gX2_isTold_X2_needFable rfl 1 2 (by decide +kernel) rfl dX2_isTold_2 [0, 1] 0 [] [] rfl rfl rfl ⟨by decide, by decide⟩ ⟨by decide, by decide⟩ rfl rfl rfl rfl rfl (Nat.le_of_ble_eq_true rfl) rfl rfl rfl rfl rfl rfl rfl (fun E hE => zx_out K htab rfl (by obtain ⟨rfl, h9⟩ := hE; simp [z_exc, cd1, h9]) [] rfl (by decide) (by decide)) (fun k2 => ?_)
  obtain ⟨jw, hjw, rfl⟩ := fin_ix k2 (by omega)
  have ejw : ix (nI jw) = jw := ix_nI (by omega)
  refine z_iload_n K 2 dX2_isTold_5 rfl ?_
  refine z_callSX (ws' := [(aX, .inr (2, [.ref aB, .ref aL, .ref aT, .int se])), (aB, .inr (0, [.int (nI n), .ref aB0, .ref aB1, .ref aB2, .ref aB3, .ref aB4, .ref aB5])), (aL, .inr (1, [.ref aL0, .ref aL1, .ref aL2, .ref aL3, .ref aL4, .ref aL5, .int hu])), (aL3, .inl (cI, 6, .inl lt))]) (st' := []) (rest := []) K (m_X2_needValley l G D cI cJ x ) gX2_isTold_X2_needValley rfl 1 (by decide +kernel) dX2_isTold_6 [] [] [] rfl rfl rfl ⟨by decide, by decide⟩ ⟨by decide, by decide⟩ rfl rfl rfl rfl (Nat.le_of_ble_eq_true rfl) rfl rfl rfl rfl rfl rfl rfl (fun E hE => zx_out K htab rfl (by obtain ⟨rfl, h9⟩ := hE; simp [z_exc, cd1, k2, ejw, h9]) [] rfl (by decide) (by decide)) (fun k6 => ?_)
  obtain ⟨jx, hjx, rfl⟩ := fin_ix k6 (by omega)
  have ejx : ix (nI jx) = jx := ix_nI (by omega)
  refine z_aload_n K 0 dX2_isTold_9 rfl ?_
  refine z_get (C := RX2) (T := TX2) (N := 4) (ci := 2) K iX2 rfl 0 rfl 1 (by decide) (by decide +kernel) rfl rfl dX2_isTold_10 ?_
  refine z_get (C := RX1) (T := TX1) (N := 7) (ci := 1) K iX1 rfl 2 rfl 3 (by decide) (by decide +kernel) rfl rfl dX2_isTold_13 ?_
  refine z_iload_n K 2 dX2_isTold_16 rfl ?_
  refine z_ialdN K 3 0 jx (by omega) (by omega) rfl rfl dX2_isTold_17 ?_
  refine z_iload_n K 1 dX2_isTold_18 rfl ?_
  refine z_callS (ws' := [(aX, .inr (2, [.ref aB, .ref aL, .ref aT, .int se])), (aB, .inr (0, [.int (nI n), .ref aB0, .ref aB1, .ref aB2, .ref aB3, .ref aB4, .ref aB5])), (aL, .inr (1, [.ref aL0, .ref aL1, .ref aL2, .ref aL3, .ref aL4, .ref aL5, .int hu])), (aL3, .inl (cI, 6, .inl lt))]) (st' := [.int (z_b (hs (lt jx) (nI jw)))]) (rest := []) K (m_X2_has l G D cI cJ (lt jx) (nI jw) ) gX2_isTold_X2_has rfl 2 (by decide +kernel) dX2_isTold_19 [] [] [] rfl rfl rfl ⟨by decide, by decide⟩ ⟨by decide, by decide⟩ rfl rfl rfl rfl (Nat.le_of_ble_eq_true rfl) rfl rfl rfl rfl ?_
  exact z_zretX K (by simp [cd1, k2, ejw, k6, ejx]) dX2_isTold_22 ((by first | (simp only [k2, ejw, k6, ejx, Bool.false_eq_true, if_false, if_true, ↓reduceIte]; done) | rfl | simp [k2, ejw, k6, ejx])) [] rfl (by decide) (by decide)

set_option maxRecDepth 100000 in
set_option maxHeartbeats 4000000 in
theorem m_X2_toldIn (l : Launch) (G : Nat → Prop) (D : va_G) (cI cJ : ClassId) (aX : Nat) (w : Int32) (aB : Nat) (aL : Nat) (aT : Nat) (se : Int32) (aL0 : Nat) (aL1 : Nat) (aL2 : Nat) (aL3 : Nat) (aL4 : Nat) (aL5 : Nat) (hu : Int32) (lt : Nat → Int32)  : z_MX l yX2_toldIn wsX2_toldIn { frames := 7, cells := 6, slots := 36, locals := 102 } G D [(cI, .int), (cJ, .long)] [.ref aX, .int w] [(aX, .inr (2, [.ref aB, .ref aL, .ref aT, .int se])), (aL, .inr (1, [.ref aL0, .ref aL1, .ref aL2, .ref aL3, .ref aL4, .ref aL5, .int hu])), (aL3, .inl (cI, 6, .inl lt))] (cd1 (fin w 6) = 0) (some (.int (pc (lt (ix w))))) [] (z_exc z_IOB z_ISE (cd1 (fin w 6))) [] 6 36 := by
  have iX2 : ∀ w ∈ u_ws RX2 TX2 4, w ∈ wsX2_toldIn := fun w h => List.mem_cons_of_mem _ (List.mem_append_left _ (List.mem_append_left _ (List.mem_append_right _ h)))
  have iX1 : ∀ w ∈ u_ws RX1 TX1 7, w ∈ wsX2_toldIn := fun w h => List.mem_cons_of_mem _ (List.mem_append_left _ (List.mem_append_right _ h))
  have t242 : ∀ w ∈ (vx_atS "FableIndex" 242 z_IOB ["java/lang/RuntimeException", "java/lang/Exception"]).filter goodWord, w ∈ wsX2_toldIn := fun w h => List.mem_cons_of_mem _ (List.mem_append_right _ h)
  refine z_ofWX (cc := cX2_toldIn) (nL := 2) (ret := (some .int)) (by decide) rfl (Nat.le_of_ble_eq_true rfl) [] rfl (lv0 := [(0, .ref aX), (1, .int w)]) rfl ?_
  intro p e s m args below meth c K htab
  refine z_iload_n K 1 dX2_toldIn_0 rfl ?_
  refine z_callSX (ws' := [(aX, .inr (2, [.ref aB, .ref aL, .ref aT, .int se])), (aL, .inr (1, [.ref aL0, .ref aL1, .ref aL2, .ref aL3, .ref aL4, .ref aL5, .int hu])), (aL3, .inl (cI, 6, .inl lt))]) (st' := []) (rest := []) K (m_X2_needValley l G D cI cJ w ) gX2_toldIn_X2_needValley rfl 1 (by decide +kernel) dX2_toldIn_1 [] [] [] rfl rfl rfl ⟨by decide, by decide⟩ ⟨by decide, by decide⟩ rfl rfl rfl rfl (Nat.le_of_ble_eq_true rfl) rfl rfl rfl rfl rfl rfl rfl (fun E hE => zx_out K htab rfl (by obtain ⟨rfl, h9⟩ := hE; simp [z_exc, cd1, h9]) [] rfl (by decide) (by decide)) (fun k1 => ?_)
  obtain ⟨jw, hjw, rfl⟩ := fin_ix k1 (by omega)
  have ejw : ix (nI jw) = jw := ix_nI (by omega)
  refine z_aload_n K 0 dX2_toldIn_4 rfl ?_
  refine z_get (C := RX2) (T := TX2) (N := 4) (ci := 2) K iX2 rfl 0 rfl 1 (by decide) (by decide +kernel) rfl rfl dX2_toldIn_5 ?_
  refine z_get (C := RX1) (T := TX1) (N := 7) (ci := 1) K iX1 rfl 1 rfl 3 (by decide) (by decide +kernel) rfl rfl dX2_toldIn_8 ?_
  refine z_iload_n K 1 dX2_toldIn_11 rfl ?_
  refine z_ialdN K 2 0 jw (by omega) (by omega) rfl rfl dX2_toldIn_12 ?_
  refine z_callS (ws' := [(aX, .inr (2, [.ref aB, .ref aL, .ref aT, .int se])), (aL, .inr (1, [.ref aL0, .ref aL1, .ref aL2, .ref aL3, .ref aL4, .ref aL5, .int hu])), (aL3, .inl (cI, 6, .inl lt))]) (st' := [.int (pc (lt jw))]) (rest := []) K (m_X2_size l G D cI cJ (lt jw) ) gX2_toldIn_X2_size rfl 1 (by decide +kernel) dX2_toldIn_13 [] [] [] rfl rfl rfl ⟨by decide, by decide⟩ ⟨by decide, by decide⟩ rfl rfl rfl rfl (Nat.le_of_ble_eq_true rfl) rfl rfl rfl rfl ?_
  exact z_iretX K (by simp [cd1, k1, ejw]) dX2_toldIn_16 ((by first | (simp only [k1, ejw, Bool.false_eq_true, if_false, if_true, ↓reduceIte]; done) | rfl | simp [k1, ejw])) [] rfl (by decide) (by decide)

set_option maxRecDepth 100000 in
set_option maxHeartbeats 4000000 in
theorem m_X2_allowedIn (l : Launch) (G : Nat → Prop) (D : va_G) (cI cJ : ClassId) (aX : Nat) (w : Int32) (aB : Nat) (aL : Nat) (aT : Nat) (se : Int32) (n : Nat) (aB0 : Nat) (aB1 : Nat) (aB2 : Nat) (aB3 : Nat) (aB4 : Nat) (aB5 : Nat) (fm : Nat → Int32) (fb : Nat → Int32) (aL0 : Nat) (aL1 : Nat) (aL2 : Nat) (aL3 : Nat) (aL4 : Nat) (aL5 : Nat) (hu : Int32) (lm : Nat → Int32) (lb : Nat → Int32) (hn : n ≤ 20) : z_MX l yX2_allowedIn wsX2_allowedIn { frames := 7, cells := 6, slots := 36, locals := 102 } G D [(cI, .int), (cJ, .long)] [.ref aX, .int w] [(aX, .inr (2, [.ref aB, .ref aL, .ref aT, .int se])), (aB, .inr (0, [.int (nI n), .ref aB0, .ref aB1, .ref aB2, .ref aB3, .ref aB4, .ref aB5])), (aB0, .inl (cI, 20, .inl fm)), (aB1, .inl (cI, 20, .inl fb)), (aL, .inr (1, [.ref aL0, .ref aL1, .ref aL2, .ref aL3, .ref aL4, .ref aL5, .int hu])), (aL1, .inl (cI, 6, .inl lm)), (aL2, .inl (cI, 6, .inl lb))] (cd1 (fin w 6) = 0) (some (.int (pc (welS lm lb fm fb (ix w) n)))) [] (z_exc z_IOB z_ISE (cd1 (fin w 6))) [] 6 36 := by
  have iX2 : ∀ w ∈ u_ws RX2 TX2 4, w ∈ wsX2_allowedIn := fun w h => List.mem_cons_of_mem _ (List.mem_append_left _ (List.mem_append_left _ (List.mem_append_left _ (List.mem_append_right _ h))))
  have iX0 : ∀ w ∈ u_ws RX0 TX0 7, w ∈ wsX2_allowedIn := fun w h => List.mem_cons_of_mem _ (List.mem_append_left _ (List.mem_append_left _ (List.mem_append_right _ h)))
  have iX1 : ∀ w ∈ u_ws RX1 TX1 7, w ∈ wsX2_allowedIn := fun w h => List.mem_cons_of_mem _ (List.mem_append_left _ (List.mem_append_right _ h))
  have t242 : ∀ w ∈ (vx_atS "FableIndex" 242 z_IOB ["java/lang/RuntimeException", "java/lang/Exception"]).filter goodWord, w ∈ wsX2_allowedIn := fun w h => List.mem_cons_of_mem _ (List.mem_append_right _ h)
  refine z_ofWX (cc := cX2_allowedIn) (nL := 2) (ret := (some .int)) (by decide) rfl (Nat.le_of_ble_eq_true rfl) [] rfl (lv0 := [(0, .ref aX), (1, .int w)]) rfl ?_
  intro p e s m args below meth c K htab
  refine z_iload_n K 1 dX2_allowedIn_0 rfl ?_
  refine z_callSX (ws' := [(aX, .inr (2, [.ref aB, .ref aL, .ref aT, .int se])), (aB, .inr (0, [.int (nI n), .ref aB0, .ref aB1, .ref aB2, .ref aB3, .ref aB4, .ref aB5])), (aB0, .inl (cI, 20, .inl fm)), (aB1, .inl (cI, 20, .inl fb)), (aL, .inr (1, [.ref aL0, .ref aL1, .ref aL2, .ref aL3, .ref aL4, .ref aL5, .int hu])), (aL1, .inl (cI, 6, .inl lm)), (aL2, .inl (cI, 6, .inl lb))]) (st' := []) (rest := []) K (m_X2_needValley l G D cI cJ w ) gX2_allowedIn_X2_needValley rfl 1 (by decide +kernel) dX2_allowedIn_1 [] [] [] rfl rfl rfl ⟨by decide, by decide⟩ ⟨by decide, by decide⟩ rfl rfl rfl rfl (Nat.le_of_ble_eq_true rfl) rfl rfl rfl rfl rfl rfl rfl (fun E hE => zx_out K htab rfl (by obtain ⟨rfl, h9⟩ := hE; simp [z_exc, cd1, h9]) [] rfl (by decide) (by decide)) (fun k1 => ?_)
  obtain ⟨jw, hjw, rfl⟩ := fin_ix k1 (by omega)
  have ejw : ix (nI jw) = jw := ix_nI (by omega)
  refine z_aload_n K 0 dX2_allowedIn_4 rfl ?_
  refine z_get (C := RX2) (T := TX2) (N := 4) (ci := 2) K iX2 rfl 0 rfl 1 (by decide) (by decide +kernel) rfl rfl dX2_allowedIn_5 ?_
  refine z_aload_n K 0 dX2_allowedIn_8 rfl ?_
  refine z_get (C := RX2) (T := TX2) (N := 4) (ci := 2) K iX2 rfl 0 rfl 0 (by decide) (by decide +kernel) rfl rfl dX2_allowedIn_9 ?_
  refine z_iload_n K 1 dX2_allowedIn_12 rfl ?_
  refine z_callV (ws' := [(aX, .inr (2, [.ref aB, .ref aL, .ref aT, .int se])), (aB, .inr (0, [.int (nI n), .ref aB0, .ref aB1, .ref aB2, .ref aB3, .ref aB4, .ref aB5])), (aB0, .inl (cI, 20, .inl fm)), (aB1, .inl (cI, 20, .inl fb)), (aL, .inr (1, [.ref aL0, .ref aL1, .ref aL2, .ref aL3, .ref aL4, .ref aL5, .int hu])), (aL1, .inl (cI, 6, .inl lm)), (aL2, .inl (cI, 6, .inl lb))]) (st' := [.int (welS lm lb fm fb jw n)]) (rest := []) (C := RX1) (T := TX1) (N := 7) K (m_X1_welcome l G D cI cJ aL aB jw aL0 aL1 aL2 aL3 aL4 aL5 hu lm lb n aB0 aB1 aB2 aB3 aB4 aB5 fm fb (by omega) (by omega)) gX2_allowedIn_X1_welcome rfl 2 1 (by decide +kernel) rfl dX2_allowedIn_13 [4, 5, 6, 1, 2, 3] 4 [] [] rfl rfl rfl ⟨by decide, by decide⟩ ⟨by decide, by decide⟩ rfl rfl rfl rfl rfl (Nat.le_of_ble_eq_true rfl) rfl rfl rfl rfl ?_
  refine z_callS (ws' := [(aX, .inr (2, [.ref aB, .ref aL, .ref aT, .int se])), (aB, .inr (0, [.int (nI n), .ref aB0, .ref aB1, .ref aB2, .ref aB3, .ref aB4, .ref aB5])), (aB0, .inl (cI, 20, .inl fm)), (aB1, .inl (cI, 20, .inl fb)), (aL, .inr (1, [.ref aL0, .ref aL1, .ref aL2, .ref aL3, .ref aL4, .ref aL5, .int hu])), (aL1, .inl (cI, 6, .inl lm)), (aL2, .inl (cI, 6, .inl lb))]) (st' := [.int (pc (welS lm lb fm fb jw n))]) (rest := []) K (m_X2_size l G D cI cJ (welS lm lb fm fb jw n) ) gX2_allowedIn_X2_size rfl 1 (by decide +kernel) dX2_allowedIn_16 [] [] [] rfl rfl rfl ⟨by decide, by decide⟩ ⟨by decide, by decide⟩ rfl rfl rfl rfl (Nat.le_of_ble_eq_true rfl) rfl rfl rfl rfl ?_
  exact z_iretX K (by simp [cd1, k1, ejw]) dX2_allowedIn_19 ((by first | (simp only [k1, ejw, Bool.false_eq_true, if_false, if_true, ↓reduceIte]; done) | rfl | simp [k1, ejw])) [] rfl (by decide) (by decide)

set_option maxRecDepth 100000 in
set_option maxHeartbeats 4000000 in
theorem m_X2_bansOf (l : Launch) (G : Nat → Prop) (D : va_G) (cI cJ : ClassId) (aX : Nat) (w : Int32) (aB : Nat) (aL : Nat) (aT : Nat) (se : Int32) (aL0 : Nat) (aL1 : Nat) (aL2 : Nat) (aL3 : Nat) (aL4 : Nat) (aL5 : Nat) (hu : Int32) (lm : Nat → Int32) (lb : Nat → Int32)  : z_MX l yX2_bansOf wsX2_bansOf { frames := 7, cells := 6, slots := 36, locals := 102 } G D [(cI, .int), (cJ, .long)] [.ref aX, .int w] [(aX, .inr (2, [.ref aB, .ref aL, .ref aT, .int se])), (aL, .inr (1, [.ref aL0, .ref aL1, .ref aL2, .ref aL3, .ref aL4, .ref aL5, .int hu])), (aL1, .inl (cI, 6, .inl lm)), (aL2, .inl (cI, 6, .inl lb))] (cd1 (fin w 6) = 0) (some (.int ((pc (lm (ix w))) + (pc (lb (ix w)))))) [] (z_exc z_IOB z_ISE (cd1 (fin w 6))) [] 6 36 := by
  have iX2 : ∀ w ∈ u_ws RX2 TX2 4, w ∈ wsX2_bansOf := fun w h => List.mem_cons_of_mem _ (List.mem_append_left _ (List.mem_append_left _ (List.mem_append_right _ h)))
  have iX1 : ∀ w ∈ u_ws RX1 TX1 7, w ∈ wsX2_bansOf := fun w h => List.mem_cons_of_mem _ (List.mem_append_left _ (List.mem_append_right _ h))
  have t242 : ∀ w ∈ (vx_atS "FableIndex" 242 z_IOB ["java/lang/RuntimeException", "java/lang/Exception"]).filter goodWord, w ∈ wsX2_bansOf := fun w h => List.mem_cons_of_mem _ (List.mem_append_right _ h)
  refine z_ofWX (cc := cX2_bansOf) (nL := 2) (ret := (some .int)) (by decide) rfl (Nat.le_of_ble_eq_true rfl) [] rfl (lv0 := [(0, .ref aX), (1, .int w)]) rfl ?_
  intro p e s m args below meth c K htab
  refine z_iload_n K 1 dX2_bansOf_0 rfl ?_
  refine z_callSX (ws' := [(aX, .inr (2, [.ref aB, .ref aL, .ref aT, .int se])), (aL, .inr (1, [.ref aL0, .ref aL1, .ref aL2, .ref aL3, .ref aL4, .ref aL5, .int hu])), (aL1, .inl (cI, 6, .inl lm)), (aL2, .inl (cI, 6, .inl lb))]) (st' := []) (rest := []) K (m_X2_needValley l G D cI cJ w ) gX2_bansOf_X2_needValley rfl 1 (by decide +kernel) dX2_bansOf_1 [] [] [] rfl rfl rfl ⟨by decide, by decide⟩ ⟨by decide, by decide⟩ rfl rfl rfl rfl (Nat.le_of_ble_eq_true rfl) rfl rfl rfl rfl rfl rfl rfl (fun E hE => zx_out K htab rfl (by obtain ⟨rfl, h9⟩ := hE; simp [z_exc, cd1, h9]) [] rfl (by decide) (by decide)) (fun k1 => ?_)
  obtain ⟨jw, hjw, rfl⟩ := fin_ix k1 (by omega)
  have ejw : ix (nI jw) = jw := ix_nI (by omega)
  refine z_aload_n K 0 dX2_bansOf_4 rfl ?_
  refine z_get (C := RX2) (T := TX2) (N := 4) (ci := 2) K iX2 rfl 0 rfl 1 (by decide) (by decide +kernel) rfl rfl dX2_bansOf_5 ?_
  refine z_get (C := RX1) (T := TX1) (N := 7) (ci := 1) K iX1 rfl 1 rfl 1 (by decide) (by decide +kernel) rfl rfl dX2_bansOf_8 ?_
  refine z_iload_n K 1 dX2_bansOf_11 rfl ?_
  refine z_ialdN K 2 0 jw (by omega) (by omega) rfl rfl dX2_bansOf_12 ?_
  refine z_callS (ws' := [(aX, .inr (2, [.ref aB, .ref aL, .ref aT, .int se])), (aL, .inr (1, [.ref aL0, .ref aL1, .ref aL2, .ref aL3, .ref aL4, .ref aL5, .int hu])), (aL1, .inl (cI, 6, .inl lm)), (aL2, .inl (cI, 6, .inl lb))]) (st' := [.int (pc (lm jw))]) (rest := []) K (m_X2_size l G D cI cJ (lm jw) ) gX2_bansOf_X2_size rfl 1 (by decide +kernel) dX2_bansOf_13 [] [] [] rfl rfl rfl ⟨by decide, by decide⟩ ⟨by decide, by decide⟩ rfl rfl rfl rfl (Nat.le_of_ble_eq_true rfl) rfl rfl rfl rfl ?_
  refine z_aload_n K 0 dX2_bansOf_16 rfl ?_
  refine z_get (C := RX2) (T := TX2) (N := 4) (ci := 2) K iX2 rfl 0 rfl 1 (by decide) (by decide +kernel) rfl rfl dX2_bansOf_17 ?_
  refine z_get (C := RX1) (T := TX1) (N := 7) (ci := 1) K iX1 rfl 1 rfl 2 (by decide) (by decide +kernel) rfl rfl dX2_bansOf_20 ?_
  refine z_iload_n K 1 dX2_bansOf_23 rfl ?_
  refine z_ialdN K 3 0 jw (by omega) (by omega) rfl rfl dX2_bansOf_24 ?_
  refine z_callS (ws' := [(aX, .inr (2, [.ref aB, .ref aL, .ref aT, .int se])), (aL, .inr (1, [.ref aL0, .ref aL1, .ref aL2, .ref aL3, .ref aL4, .ref aL5, .int hu])), (aL1, .inl (cI, 6, .inl lm)), (aL2, .inl (cI, 6, .inl lb))]) (st' := [.int (pc (lb jw)), .int (pc (lm jw))]) (rest := [.int (pc (lm jw))]) K (m_X2_size l G D cI cJ (lb jw) ) gX2_bansOf_X2_size rfl 1 (by decide +kernel) dX2_bansOf_25 [] [] [] rfl rfl rfl ⟨by decide, by decide⟩ ⟨by decide, by decide⟩ rfl rfl rfl rfl (Nat.le_of_ble_eq_true rfl) rfl rfl rfl rfl ?_
  refine z_iadd K dX2_bansOf_28 ?_
  exact z_iretX K (by simp [cd1, k1, ejw]) dX2_bansOf_29 ((by first | (simp only [k1, ejw, Bool.false_eq_true, if_false, if_true, ↓reduceIte]; done) | rfl | simp [k1, ejw])) [] rfl (by decide) (by decide)

set_option maxRecDepth 100000 in
set_option maxHeartbeats 4000000 in
theorem m_X2_fables (l : Launch) (G : Nat → Prop) (D : va_G) (cI cJ : ClassId) (aX : Nat) (aB : Nat) (aL : Nat) (aT : Nat) (se : Int32) (n : Nat) (aB0 : Nat) (aB1 : Nat) (aB2 : Nat) (aB3 : Nat) (aB4 : Nat) (aB5 : Nat)  : z_M l yX2_fables wsX2_fables { frames := 0, cells := 0, slots := 0, locals := 0 } G D [(cI, .int), (cJ, .long)] [.ref aX] [(aX, .inr (2, [.ref aB, .ref aL, .ref aT, .int se])), (aB, .inr (0, [.int (nI n), .ref aB0, .ref aB1, .ref aB2, .ref aB3, .ref aB4, .ref aB5]))] (some (.int (nI n))) [] 0 0 := by
  have iX2 : ∀ w ∈ u_ws RX2 TX2 4, w ∈ wsX2_fables := fun w h => List.mem_cons_of_mem _ (List.mem_append_left _ (List.mem_append_right _ h))
  have iX0 : ∀ w ∈ u_ws RX0 TX0 7, w ∈ wsX2_fables := fun w h => List.mem_cons_of_mem _ (List.mem_append_right _ h)
  refine z_ofW (cc := cX2_fables) (nL := 1) (ret := (some .int)) (by decide) rfl (Nat.le_of_ble_eq_true rfl) [] rfl (lv0 := [(0, .ref aX)]) rfl ?_
  intro p e s m args below meth c K
  refine z_aload_n K 0 dX2_fables_0 rfl ?_
  refine z_get (C := RX2) (T := TX2) (N := 4) (ci := 2) K iX2 rfl 0 rfl 0 (by decide) (by decide +kernel) rfl rfl dX2_fables_1 ?_
  refine z_get (C := RX0) (T := TX0) (N := 7) (ci := 0) K iX0 rfl 1 rfl 0 (by decide) (by decide +kernel) rfl rfl dX2_fables_4 ?_
  exact z_iret K dX2_fables_7 (rfl) [] rfl (by decide) (by decide)

set_option maxRecDepth 100000 in
set_option maxHeartbeats 4000000 in
theorem m_X2_season (l : Launch) (G : Nat → Prop) (D : va_G) (cI cJ : ClassId) (aX : Nat) (aB : Nat) (aL : Nat) (aT : Nat) (se : Int32)  : z_M l yX2_season wsX2_season { frames := 0, cells := 0, slots := 0, locals := 0 } G D [(cI, .int), (cJ, .long)] [.ref aX] [(aX, .inr (2, [.ref aB, .ref aL, .ref aT, .int se]))] (some (.int se)) [] 0 0 := by
  have iX2 : ∀ w ∈ u_ws RX2 TX2 4, w ∈ wsX2_season := fun w h => List.mem_cons_of_mem _ (List.mem_append_right _ h)
  refine z_ofW (cc := cX2_season) (nL := 1) (ret := (some .int)) (by decide) rfl (Nat.le_of_ble_eq_true rfl) [] rfl (lv0 := [(0, .ref aX)]) rfl ?_
  intro p e s m args below meth c K
  refine z_aload_n K 0 dX2_season_0 rfl ?_
  refine z_get (C := RX2) (T := TX2) (N := 4) (ci := 2) K iX2 rfl 0 rfl 3 (by decide) (by decide +kernel) rfl rfl dX2_season_1 ?_
  exact z_iret K dX2_season_4 (rfl) [] rfl (by decide) (by decide)

set_option maxRecDepth 100000 in
set_option maxHeartbeats 4000000 in
theorem m_X2_tellings (l : Launch) (G : Nat → Prop) (D : va_G) (cI cJ : ClassId) (aX : Nat) (aB : Nat) (aL : Nat) (aT : Nat) (se : Int32) (n : Nat) (aB0 : Nat) (aB1 : Nat) (aB2 : Nat) (aB3 : Nat) (aB4 : Nat) (aB5 : Nat) (aL0 : Nat) (aL1 : Nat) (aL2 : Nat) (aL3 : Nat) (aL4 : Nat) (aL5 : Nat) (hu : Int32) (lt : Nat → Int32)  : z_M l yX2_tellings wsX2_tellings { frames := 3, cells := 0, slots := 0, locals := 63 } G D [(cI, .int), (cJ, .long)] [.ref aX] [(aX, .inr (2, [.ref aB, .ref aL, .ref aT, .int se])), (aB, .inr (0, [.int (nI n), .ref aB0, .ref aB1, .ref aB2, .ref aB3, .ref aB4, .ref aB5])), (aL, .inr (1, [.ref aL0, .ref aL1, .ref aL2, .ref aL3, .ref aL4, .ref aL5, .int hu])), (aL3, .inl (cI, 6, .inl lt))] (some (.int (cntS lt (allS n) 6))) [] 0 0 := by
  have iX2 : ∀ w ∈ u_ws RX2 TX2 4, w ∈ wsX2_tellings := fun w h => List.mem_cons_of_mem _ (List.mem_append_left _ (List.mem_append_left _ (List.mem_append_right _ h)))
  have iX0 : ∀ w ∈ u_ws RX0 TX0 7, w ∈ wsX2_tellings := fun w h => List.mem_cons_of_mem _ (List.mem_append_left _ (List.mem_append_right _ h))
  have iX1 : ∀ w ∈ u_ws RX1 TX1 7, w ∈ wsX2_tellings := fun w h => List.mem_cons_of_mem _ (List.mem_append_right _ h)
  refine z_ofW (cc := cX2_tellings) (nL := 1) (ret := (some .int)) (by decide) rfl (Nat.le_of_ble_eq_true rfl) [] rfl (lv0 := [(0, .ref aX)]) rfl ?_
  intro p e s m args below meth c K
  refine z_aload_n K 0 dX2_tellings_0 rfl ?_
  refine z_get (C := RX2) (T := TX2) (N := 4) (ci := 2) K iX2 rfl 0 rfl 1 (by decide) (by decide +kernel) rfl rfl dX2_tellings_1 ?_
  refine z_aload_n K 0 dX2_tellings_4 rfl ?_
  refine z_get (C := RX2) (T := TX2) (N := 4) (ci := 2) K iX2 rfl 0 rfl 0 (by decide) (by decide +kernel) rfl rfl dX2_tellings_5 ?_
  refine z_callV (ws' := [(aX, .inr (2, [.ref aB, .ref aL, .ref aT, .int se])), (aB, .inr (0, [.int (nI n), .ref aB0, .ref aB1, .ref aB2, .ref aB3, .ref aB4, .ref aB5])), (aL, .inr (1, [.ref aL0, .ref aL1, .ref aL2, .ref aL3, .ref aL4, .ref aL5, .int hu])), (aL3, .inl (cI, 6, .inl lt))]) (st' := [.int (allS n), .ref aL]) (rest := [.ref aL]) (C := RX0) (T := TX0) (N := 7) K (m_X0_all l G D cI cJ aB n aB0 aB1 aB2 aB3 aB4 aB5 ) gX2_tellings_X0_all rfl 0 0 (by decide +kernel) rfl dX2_tellings_8 [1] 1 [] [] rfl rfl rfl ⟨by decide, by decide⟩ ⟨by decide, by decide⟩ rfl rfl rfl rfl rfl (Nat.le_of_ble_eq_true rfl) rfl rfl rfl rfl ?_
  refine z_callV (ws' := [(aX, .inr (2, [.ref aB, .ref aL, .ref aT, .int se])), (aB, .inr (0, [.int (nI n), .ref aB0, .ref aB1, .ref aB2, .ref aB3, .ref aB4, .ref aB5])), (aL, .inr (1, [.ref aL0, .ref aL1, .ref aL2, .ref aL3, .ref aL4, .ref aL5, .int hu])), (aL3, .inl (cI, 6, .inl lt))]) (st' := [.int (cntS lt (allS n) 6)]) (rest := []) (C := RX1) (T := TX1) (N := 7) K (m_X1_count l G D cI cJ aL (allS n) aL0 aL1 aL2 aL3 aL4 aL5 hu lt ) gX2_tellings_X1_count rfl 1 1 (by decide +kernel) rfl dX2_tellings_11 [2, 3] 2 [] [] rfl rfl rfl ⟨by decide, by decide⟩ ⟨by decide, by decide⟩ rfl rfl rfl rfl rfl (Nat.le_of_ble_eq_true rfl) rfl rfl rfl rfl ?_
  exact z_iret K dX2_tellings_14 (rfl) [] rfl (by decide) (by decide)

set_option maxRecDepth 100000 in
set_option maxHeartbeats 4000000 in
theorem m_X2_silenced (l : Launch) (G : Nat → Prop) (D : va_G) (cI cJ : ClassId) (aX : Nat) (aB : Nat) (aL : Nat) (aT : Nat) (se : Int32) (aL0 : Nat) (aL1 : Nat) (aL2 : Nat) (aL3 : Nat) (aL4 : Nat) (aL5 : Nat) (hu : Int32)  : z_M l yX2_silenced wsX2_silenced { frames := 0, cells := 0, slots := 0, locals := 0 } G D [(cI, .int), (cJ, .long)] [.ref aX] [(aX, .inr (2, [.ref aB, .ref aL, .ref aT, .int se])), (aL, .inr (1, [.ref aL0, .ref aL1, .ref aL2, .ref aL3, .ref aL4, .ref aL5, .int hu]))] (some (.int hu)) [] 0 0 := by
  have iX2 : ∀ w ∈ u_ws RX2 TX2 4, w ∈ wsX2_silenced := fun w h => List.mem_cons_of_mem _ (List.mem_append_left _ (List.mem_append_right _ h))
  have iX1 : ∀ w ∈ u_ws RX1 TX1 7, w ∈ wsX2_silenced := fun w h => List.mem_cons_of_mem _ (List.mem_append_right _ h)
  refine z_ofW (cc := cX2_silenced) (nL := 1) (ret := (some .int)) (by decide) rfl (Nat.le_of_ble_eq_true rfl) [] rfl (lv0 := [(0, .ref aX)]) rfl ?_
  intro p e s m args below meth c K
  refine z_aload_n K 0 dX2_silenced_0 rfl ?_
  refine z_get (C := RX2) (T := TX2) (N := 4) (ci := 2) K iX2 rfl 0 rfl 1 (by decide) (by decide +kernel) rfl rfl dX2_silenced_1 ?_
  refine z_get (C := RX1) (T := TX1) (N := 7) (ci := 1) K iX1 rfl 1 rfl 6 (by decide) (by decide +kernel) rfl rfl dX2_silenced_4 ?_
  exact z_iret K dX2_silenced_7 (rfl) [] rfl (by decide) (by decide)

set_option maxRecDepth 100000 in
set_option maxHeartbeats 4000000 in
theorem m_X2_fablesWithMoral (l : Launch) (G : Nat → Prop) (D : va_G) (cI cJ : ClassId) (aX : Nat) (w : Int32) (aB : Nat) (aL : Nat) (aT : Nat) (se : Int32) (n : Nat) (aB0 : Nat) (aB1 : Nat) (aB2 : Nat) (aB3 : Nat) (aB4 : Nat) (aB5 : Nat) (fm : Nat → Int32) (hn : n ≤ 20) : z_MX l yX2_fablesWithMoral wsX2_fablesWithMoral { frames := 7, cells := 6, slots := 36, locals := 102 } G D [(cI, .int), (cJ, .long)] [.ref aX, .int w] [(aX, .inr (2, [.ref aB, .ref aL, .ref aT, .int se])), (aB, .inr (0, [.int (nI n), .ref aB0, .ref aB1, .ref aB2, .ref aB3, .ref aB4, .ref aB5])), (aB0, .inl (cI, 20, .inl fm))] (cd1 (fin w 10) = 0) (some (.int (pc (wmS fm w n)))) [] (z_exc z_IOB z_ISE (cd1 (fin w 10))) [] 6 36 := by
  have iX2 : ∀ w ∈ u_ws RX2 TX2 4, w ∈ wsX2_fablesWithMoral := fun w h => List.mem_cons_of_mem _ (List.mem_append_left _ (List.mem_append_left _ (List.mem_append_right _ h)))
  have iX0 : ∀ w ∈ u_ws RX0 TX0 7, w ∈ wsX2_fablesWithMoral := fun w h => List.mem_cons_of_mem _ (List.mem_append_left _ (List.mem_append_right _ h))
  have t242 : ∀ w ∈ (vx_atS "FableIndex" 242 z_IOB ["java/lang/RuntimeException", "java/lang/Exception"]).filter goodWord, w ∈ wsX2_fablesWithMoral := fun w h => List.mem_cons_of_mem _ (List.mem_append_right _ h)
  refine z_ofWX (cc := cX2_fablesWithMoral) (nL := 2) (ret := (some .int)) (by decide) rfl (Nat.le_of_ble_eq_true rfl) [] rfl (lv0 := [(0, .ref aX), (1, .int w)]) rfl ?_
  intro p e s m args below meth c K htab
  refine z_iload_n K 1 dX2_fablesWithMoral_0 rfl ?_
  refine z_callSX (ws' := [(aX, .inr (2, [.ref aB, .ref aL, .ref aT, .int se])), (aB, .inr (0, [.int (nI n), .ref aB0, .ref aB1, .ref aB2, .ref aB3, .ref aB4, .ref aB5])), (aB0, .inl (cI, 20, .inl fm))]) (st' := []) (rest := []) K (m_X2_needMoral l G D cI cJ w ) gX2_fablesWithMoral_X2_needMoral rfl 1 (by decide +kernel) dX2_fablesWithMoral_1 [] [] [] rfl rfl rfl ⟨by decide, by decide⟩ ⟨by decide, by decide⟩ rfl rfl rfl rfl (Nat.le_of_ble_eq_true rfl) rfl rfl rfl rfl rfl rfl rfl (fun E hE => zx_out K htab rfl (by obtain ⟨rfl, h9⟩ := hE; simp [z_exc, cd1, h9]) [] rfl (by decide) (by decide)) (fun k1 => ?_)
  refine z_aload_n K 0 dX2_fablesWithMoral_4 rfl ?_
  refine z_get (C := RX2) (T := TX2) (N := 4) (ci := 2) K iX2 rfl 0 rfl 0 (by decide) (by decide +kernel) rfl rfl dX2_fablesWithMoral_5 ?_
  refine z_iload_n K 1 dX2_fablesWithMoral_8 rfl ?_
  refine z_callV (ws' := [(aX, .inr (2, [.ref aB, .ref aL, .ref aT, .int se])), (aB, .inr (0, [.int (nI n), .ref aB0, .ref aB1, .ref aB2, .ref aB3, .ref aB4, .ref aB5])), (aB0, .inl (cI, 20, .inl fm))]) (st' := [.int (wmS fm w n)]) (rest := []) (C := RX0) (T := TX0) (N := 7) K (m_X0_withMoral l G D cI cJ aB w n aB0 aB1 aB2 aB3 aB4 aB5 fm (by omega)) gX2_fablesWithMoral_X0_withMoral rfl 1 0 (by decide +kernel) rfl dX2_fablesWithMoral_9 [1, 2] 1 [] [] rfl rfl rfl ⟨by decide, by decide⟩ ⟨by decide, by decide⟩ rfl rfl rfl rfl rfl (Nat.le_of_ble_eq_true rfl) rfl rfl rfl rfl ?_
  refine z_callS (ws' := [(aX, .inr (2, [.ref aB, .ref aL, .ref aT, .int se])), (aB, .inr (0, [.int (nI n), .ref aB0, .ref aB1, .ref aB2, .ref aB3, .ref aB4, .ref aB5])), (aB0, .inl (cI, 20, .inl fm))]) (st' := [.int (pc (wmS fm w n))]) (rest := []) K (m_X2_size l G D cI cJ (wmS fm w n) ) gX2_fablesWithMoral_X2_size rfl 1 (by decide +kernel) dX2_fablesWithMoral_12 [] [] [] rfl rfl rfl ⟨by decide, by decide⟩ ⟨by decide, by decide⟩ rfl rfl rfl rfl (Nat.le_of_ble_eq_true rfl) rfl rfl rfl rfl ?_
  exact z_iretX K (by simp [cd1, k1]) dX2_fablesWithMoral_15 (rfl) [] rfl (by decide) (by decide)

set_option maxRecDepth 100000 in
set_option maxHeartbeats 4000000 in
theorem m_X2_fablesWithBeast (l : Launch) (G : Nat → Prop) (D : va_G) (cI cJ : ClassId) (aX : Nat) (w : Int32) (aB : Nat) (aL : Nat) (aT : Nat) (se : Int32) (n : Nat) (aB0 : Nat) (aB1 : Nat) (aB2 : Nat) (aB3 : Nat) (aB4 : Nat) (aB5 : Nat) (fb : Nat → Int32) (hn : n ≤ 20) : z_MX l yX2_fablesWithBeast wsX2_fablesWithBeast { frames := 7, cells := 6, slots := 36, locals := 102 } G D [(cI, .int), (cJ, .long)] [.ref aX, .int w] [(aX, .inr (2, [.ref aB, .ref aL, .ref aT, .int se])), (aB, .inr (0, [.int (nI n), .ref aB0, .ref aB1, .ref aB2, .ref aB3, .ref aB4, .ref aB5])), (aB1, .inl (cI, 20, .inl fb))] (cd1 (fin w 12) = 0) (some (.int (pc (wbS fb w n)))) [] (z_exc z_IOB z_ISE (cd1 (fin w 12))) [] 6 36 := by
  have iX2 : ∀ w ∈ u_ws RX2 TX2 4, w ∈ wsX2_fablesWithBeast := fun w h => List.mem_cons_of_mem _ (List.mem_append_left _ (List.mem_append_left _ (List.mem_append_right _ h)))
  have iX0 : ∀ w ∈ u_ws RX0 TX0 7, w ∈ wsX2_fablesWithBeast := fun w h => List.mem_cons_of_mem _ (List.mem_append_left _ (List.mem_append_right _ h))
  have t242 : ∀ w ∈ (vx_atS "FableIndex" 242 z_IOB ["java/lang/RuntimeException", "java/lang/Exception"]).filter goodWord, w ∈ wsX2_fablesWithBeast := fun w h => List.mem_cons_of_mem _ (List.mem_append_right _ h)
  refine z_ofWX (cc := cX2_fablesWithBeast) (nL := 2) (ret := (some .int)) (by decide) rfl (Nat.le_of_ble_eq_true rfl) [] rfl (lv0 := [(0, .ref aX), (1, .int w)]) rfl ?_
  intro p e s m args below meth c K htab
  refine z_iload_n K 1 dX2_fablesWithBeast_0 rfl ?_
  refine z_callSX (ws' := [(aX, .inr (2, [.ref aB, .ref aL, .ref aT, .int se])), (aB, .inr (0, [.int (nI n), .ref aB0, .ref aB1, .ref aB2, .ref aB3, .ref aB4, .ref aB5])), (aB1, .inl (cI, 20, .inl fb))]) (st' := []) (rest := []) K (m_X2_needBeast l G D cI cJ w ) gX2_fablesWithBeast_X2_needBeast rfl 1 (by decide +kernel) dX2_fablesWithBeast_1 [] [] [] rfl rfl rfl ⟨by decide, by decide⟩ ⟨by decide, by decide⟩ rfl rfl rfl rfl (Nat.le_of_ble_eq_true rfl) rfl rfl rfl rfl rfl rfl rfl (fun E hE => zx_out K htab rfl (by obtain ⟨rfl, h9⟩ := hE; simp [z_exc, cd1, h9]) [] rfl (by decide) (by decide)) (fun k1 => ?_)
  refine z_aload_n K 0 dX2_fablesWithBeast_4 rfl ?_
  refine z_get (C := RX2) (T := TX2) (N := 4) (ci := 2) K iX2 rfl 0 rfl 0 (by decide) (by decide +kernel) rfl rfl dX2_fablesWithBeast_5 ?_
  refine z_iload_n K 1 dX2_fablesWithBeast_8 rfl ?_
  refine z_callV (ws' := [(aX, .inr (2, [.ref aB, .ref aL, .ref aT, .int se])), (aB, .inr (0, [.int (nI n), .ref aB0, .ref aB1, .ref aB2, .ref aB3, .ref aB4, .ref aB5])), (aB1, .inl (cI, 20, .inl fb))]) (st' := [.int (wbS fb w n)]) (rest := []) (C := RX0) (T := TX0) (N := 7) K (m_X0_withBeast l G D cI cJ aB w n aB0 aB1 aB2 aB3 aB4 aB5 fb (by omega)) gX2_fablesWithBeast_X0_withBeast rfl 1 0 (by decide +kernel) rfl dX2_fablesWithBeast_9 [1, 2] 1 [] [] rfl rfl rfl ⟨by decide, by decide⟩ ⟨by decide, by decide⟩ rfl rfl rfl rfl rfl (Nat.le_of_ble_eq_true rfl) rfl rfl rfl rfl ?_
  refine z_callS (ws' := [(aX, .inr (2, [.ref aB, .ref aL, .ref aT, .int se])), (aB, .inr (0, [.int (nI n), .ref aB0, .ref aB1, .ref aB2, .ref aB3, .ref aB4, .ref aB5])), (aB1, .inl (cI, 20, .inl fb))]) (st' := [.int (pc (wbS fb w n))]) (rest := []) K (m_X2_size l G D cI cJ (wbS fb w n) ) gX2_fablesWithBeast_X2_size rfl 1 (by decide +kernel) dX2_fablesWithBeast_12 [] [] [] rfl rfl rfl ⟨by decide, by decide⟩ ⟨by decide, by decide⟩ rfl rfl rfl rfl (Nat.le_of_ble_eq_true rfl) rfl rfl rfl rfl ?_
  exact z_iretX K (by simp [cd1, k1]) dX2_fablesWithBeast_15 (rfl) [] rfl (by decide) (by decide)

set_option maxRecDepth 100000 in
set_option maxHeartbeats 4000000 in
theorem m_X2_favouriteMoral (l : Launch) (G : Nat → Prop) (D : va_G) (cI cJ : ClassId) (aX : Nat) (aB : Nat) (aL : Nat) (aT : Nat) (se : Int32) (n : Nat) (aB0 : Nat) (aB1 : Nat) (aB2 : Nat) (aB3 : Nat) (aB4 : Nat) (aB5 : Nat) (fm : Nat → Int32) (aL0 : Nat) (aL1 : Nat) (aL2 : Nat) (aL3 : Nat) (aL4 : Nat) (aL5 : Nat) (hu : Int32) (lt : Nat → Int32) (hn : n ≤ 20) : z_M l yX2_favouriteMoral wsX2_favouriteMoral { frames := 3, cells := 0, slots := 0, locals := 63 } G D [(cI, .int), (cJ, .long)] [.ref aX] [(aX, .inr (2, [.ref aB, .ref aL, .ref aT, .int se])), (aB, .inr (0, [.int (nI n), .ref aB0, .ref aB1, .ref aB2, .ref aB3, .ref aB4, .ref aB5])), (aB0, .inl (cI, 20, .inl fm)), (aL, .inr (1, [.ref aL0, .ref aL1, .ref aL2, .ref aL3, .ref aL4, .ref aL5, .int hu])), (aL3, .inl (cI, 6, .inl lt))] (some (.int ((favM lt fm n 10).1))) [] 0 0 := by
  have iX2 : ∀ w ∈ u_ws RX2 TX2 4, w ∈ wsX2_favouriteMoral := fun w h => List.mem_cons_of_mem _ (List.mem_append_left _ (List.mem_append_left _ (List.mem_append_right _ h)))
  have iX0 : ∀ w ∈ u_ws RX0 TX0 7, w ∈ wsX2_favouriteMoral := fun w h => List.mem_cons_of_mem _ (List.mem_append_left _ (List.mem_append_right _ h))
  have iX1 : ∀ w ∈ u_ws RX1 TX1 7, w ∈ wsX2_favouriteMoral := fun w h => List.mem_cons_of_mem _ (List.mem_append_right _ h)
  refine z_ofW (cc := cX2_favouriteMoral) (nL := 5) (ret := (some .int)) (by decide) rfl (Nat.le_of_ble_eq_true rfl) [] rfl (lv0 := [(0, .ref aX)]) rfl ?_
  intro p e s m args below meth c K
  refine z_iconst (v := (-1)) K dX2_favouriteMoral_0 (by decide) ?_
  refine z_istore_n (lv' := [(1, .int (-1)), (0, .ref aX)]) K dX2_favouriteMoral_1 (by decide) rfl ?_
  refine z_iconst (v := 0) K dX2_favouriteMoral_2 (by decide) ?_
  refine z_istore_n (lv' := [(2, .int 0), (1, .int (-1)), (0, .ref aX)]) K dX2_favouriteMoral_3 (by decide) rfl ?_
  refine z_iconst (v := 0) K dX2_favouriteMoral_4 (by decide) ?_
  refine z_istore_n (lv' := [(3, .int 0), (2, .int 0), (1, .int (-1)), (0, .ref aX)]) K dX2_favouriteMoral_5 (by decide) rfl ?_
  refine z_loop (wsf := fun k => [(aX, .inr (2, [.ref aB, .ref aL, .ref aT, .int se])), (aB, .inr (0, [.int (nI n), .ref aB0, .ref aB1, .ref aB2, .ref aB3, .ref aB4, .ref aB5])), (aB0, .inl (cI, 20, .inl fm)), (aL, .inr (1, [.ref aL0, .ref aL1, .ref aL2, .ref aL3, .ref aL4, .ref aL5, .int hu])), (aL3, .inl (cI, 6, .inl lt))]) (lvf := fun k => [(3, .int (nI k)), (2, .int ((favM lt fm n k).2)), (1, .int ((favM lt fm n k).1)), (0, .ref aX)]) 10 rfl rfl ?_ (fun k hk ihk => ?_)
  · refine z_iload_n K 0 dX2_favouriteMoral_6 rfl ?_
    refine z_bipush (v := 10) K dX2_favouriteMoral_7 (by decide) ?_
    refine z_cmpN K 46 10 10 dX2_favouriteMoral_9 (by decide) rfl rfl (by omega) (by omega) (fun _ => ?_) (fun h => absurd h (by omega))
    refine z_iload_n K 2 dX2_favouriteMoral_46 rfl ?_
    exact z_iret K dX2_favouriteMoral_47 (rfl) [] rfl (by decide) (by decide)
  · refine z_iload_n K 0 dX2_favouriteMoral_6 rfl ?_
    refine z_bipush (v := 10) K dX2_favouriteMoral_7 (by decide) ?_
    refine z_cmpN K 46 k 10 dX2_favouriteMoral_9 (by decide) rfl rfl (by omega) (by omega) (fun h => absurd h (by omega)) (fun _ => ?_)
    refine z_aload_n K 3 dX2_favouriteMoral_12 rfl ?_
    refine z_get (C := RX2) (T := TX2) (N := 4) (ci := 2) K iX2 rfl 0 rfl 1 (by decide) (by decide +kernel) rfl rfl dX2_favouriteMoral_13 ?_
    refine z_aload_n K 3 dX2_favouriteMoral_16 rfl ?_
    refine z_get (C := RX2) (T := TX2) (N := 4) (ci := 2) K iX2 rfl 0 rfl 0 (by decide) (by decide +kernel) rfl rfl dX2_favouriteMoral_17 ?_
    refine z_iload_n K 0 dX2_favouriteMoral_20 rfl ?_
    refine z_callV (ws' := [(aX, .inr (2, [.ref aB, .ref aL, .ref aT, .int se])), (aB, .inr (0, [.int (nI n), .ref aB0, .ref aB1, .ref aB2, .ref aB3, .ref aB4, .ref aB5])), (aB0, .inl (cI, 20, .inl fm)), (aL, .inr (1, [.ref aL0, .ref aL1, .ref aL2, .ref aL3, .ref aL4, .ref aL5, .int hu])), (aL3, .inl (cI, 6, .inl lt))]) (st' := [.int (wmS fm (nI k) n), .ref aL]) (rest := [.ref aL]) (C := RX0) (T := TX0) (N := 7) K (m_X0_withMoral l G D cI cJ aB (nI k) n aB0 aB1 aB2 aB3 aB4 aB5 fm (by omega)) gX2_favouriteMoral_X0_withMoral rfl 1 0 (by decide +kernel) rfl dX2_favouriteMoral_21 [1, 2] 1 [] [] rfl rfl rfl ⟨by decide, by decide⟩ ⟨by decide, by decide⟩ rfl rfl rfl rfl rfl (Nat.le_of_ble_eq_true rfl) rfl rfl rfl rfl ?_
    refine z_callV (ws' := [(aX, .inr (2, [.ref aB, .ref aL, .ref aT, .int se])), (aB, .inr (0, [.int (nI n), .ref aB0, .ref aB1, .ref aB2, .ref aB3, .ref aB4, .ref aB5])), (aB0, .inl (cI, 20, .inl fm)), (aL, .inr (1, [.ref aL0, .ref aL1, .ref aL2, .ref aL3, .ref aL4, .ref aL5, .int hu])), (aL3, .inl (cI, 6, .inl lt))]) (st' := [.int (cntS lt (wmS fm (nI k) n) 6)]) (rest := []) (C := RX1) (T := TX1) (N := 7) K (m_X1_count l G D cI cJ aL (wmS fm (nI k) n) aL0 aL1 aL2 aL3 aL4 aL5 hu lt ) gX2_favouriteMoral_X1_count rfl 1 1 (by decide +kernel) rfl dX2_favouriteMoral_24 [3, 4] 3 [] [] rfl rfl rfl ⟨by decide, by decide⟩ ⟨by decide, by decide⟩ rfl rfl rfl rfl rfl (Nat.le_of_ble_eq_true rfl) rfl rfl rfl rfl ?_
    refine z_istore (lv' := [(4, .int (cntS lt (wmS fm (nI k) n) 6)), (3, .int (nI k)), (2, .int ((favM lt fm n k).2)), (1, .int ((favM lt fm n k).1)), (0, .ref aX)]) K dX2_favouriteMoral_27 (by decide) rfl ?_
    refine z_iload K 0 dX2_favouriteMoral_29 rfl ?_
    refine z_iload_n K 2 dX2_favouriteMoral_31 rfl ?_
    refine z_icmp_le K 40 dX2_favouriteMoral_32 (by decide) (fun c32 => ?_) (fun c32 => ?_)
    · refine z_iinc (lv' := [(3, .int (nI (k + 1))), (4, .int (cntS lt (wmS fm (nI k) n) 6)), (2, .int ((favM lt fm n k).2)), (1, .int ((favM lt fm n k).1)), (0, .ref aX)]) (v := nI (k + 1)) K 1 dX2_favouriteMoral_40 rfl (z_inc1 k) (by decide) rfl ?_
      refine z_goto K 6 dX2_favouriteMoral_43 (by decide) ?_
      refine z_lv (lv' := [(3, .int (nI (k + 1))), (2, .int ((favM lt fm n k).2)), (1, .int ((favM lt fm n k).1)), (0, .ref aX)]) [0, 2, 3, 4] rfl ?_
      rw [show ((favM lt fm n (k + 1)).2) = ((favM lt fm n k).2) from (by first | (simp only [favM_succ, c32, Bool.false_eq_true, if_false, if_true, ↓reduceIte]; done) | rfl | simp [favM_succ, c32])] at ihk
      rw [show ((favM lt fm n (k + 1)).1) = ((favM lt fm n k).1) from (by first | (simp only [favM_succ, c32, Bool.false_eq_true, if_false, if_true, ↓reduceIte]; done) | rfl | simp [favM_succ, c32])] at ihk
      exact ihk
    · refine z_iload K 0 dX2_favouriteMoral_35 rfl ?_
      refine z_istore_n (lv' := [(2, .int (cntS lt (wmS fm (nI k) n) 6)), (4, .int (cntS lt (wmS fm (nI k) n) 6)), (3, .int (nI k)), (1, .int ((favM lt fm n k).1)), (0, .ref aX)]) K dX2_favouriteMoral_37 (by decide) rfl ?_
      refine z_iload_n K 2 dX2_favouriteMoral_38 rfl ?_
      refine z_istore_n (lv' := [(1, .int (nI k)), (2, .int (cntS lt (wmS fm (nI k) n) 6)), (4, .int (cntS lt (wmS fm (nI k) n) 6)), (3, .int (nI k)), (0, .ref aX)]) K dX2_favouriteMoral_39 (by decide) rfl ?_
      refine z_iinc (lv' := [(3, .int (nI (k + 1))), (1, .int (nI k)), (2, .int (cntS lt (wmS fm (nI k) n) 6)), (4, .int (cntS lt (wmS fm (nI k) n) 6)), (0, .ref aX)]) (v := nI (k + 1)) K 3 dX2_favouriteMoral_40 rfl (z_inc1 k) (by decide) rfl ?_
      refine z_goto K 6 dX2_favouriteMoral_43 (by decide) ?_
      refine z_lv (lv' := [(3, .int (nI (k + 1))), (2, .int (cntS lt (wmS fm (nI k) n) 6)), (1, .int (nI k)), (0, .ref aX)]) [0, 2, 1, 4] rfl ?_
      rw [show ((favM lt fm n (k + 1)).2) = (cntS lt (wmS fm (nI k) n) 6) from (by first | (simp only [favM_succ, c32, Bool.false_eq_true, if_false, if_true, ↓reduceIte]; done) | rfl | simp [favM_succ, c32])] at ihk
      rw [show ((favM lt fm n (k + 1)).1) = (nI k) from (by first | (simp only [favM_succ, c32, Bool.false_eq_true, if_false, if_true, ↓reduceIte]; done) | rfl | simp [favM_succ, c32])] at ihk
      exact ihk

set_option maxRecDepth 100000 in
set_option maxHeartbeats 4000000 in
theorem m_X2_favouriteBeast (l : Launch) (G : Nat → Prop) (D : va_G) (cI cJ : ClassId) (aX : Nat) (aB : Nat) (aL : Nat) (aT : Nat) (se : Int32) (n : Nat) (aB0 : Nat) (aB1 : Nat) (aB2 : Nat) (aB3 : Nat) (aB4 : Nat) (aB5 : Nat) (fb : Nat → Int32) (aL0 : Nat) (aL1 : Nat) (aL2 : Nat) (aL3 : Nat) (aL4 : Nat) (aL5 : Nat) (hu : Int32) (lt : Nat → Int32) (hn : n ≤ 20) : z_M l yX2_favouriteBeast wsX2_favouriteBeast { frames := 3, cells := 0, slots := 0, locals := 63 } G D [(cI, .int), (cJ, .long)] [.ref aX] [(aX, .inr (2, [.ref aB, .ref aL, .ref aT, .int se])), (aB, .inr (0, [.int (nI n), .ref aB0, .ref aB1, .ref aB2, .ref aB3, .ref aB4, .ref aB5])), (aB1, .inl (cI, 20, .inl fb)), (aL, .inr (1, [.ref aL0, .ref aL1, .ref aL2, .ref aL3, .ref aL4, .ref aL5, .int hu])), (aL3, .inl (cI, 6, .inl lt))] (some (.int ((favB lt fb n 12).1))) [] 0 0 := by
  have iX2 : ∀ w ∈ u_ws RX2 TX2 4, w ∈ wsX2_favouriteBeast := fun w h => List.mem_cons_of_mem _ (List.mem_append_left _ (List.mem_append_left _ (List.mem_append_right _ h)))
  have iX0 : ∀ w ∈ u_ws RX0 TX0 7, w ∈ wsX2_favouriteBeast := fun w h => List.mem_cons_of_mem _ (List.mem_append_left _ (List.mem_append_right _ h))
  have iX1 : ∀ w ∈ u_ws RX1 TX1 7, w ∈ wsX2_favouriteBeast := fun w h => List.mem_cons_of_mem _ (List.mem_append_right _ h)
  refine z_ofW (cc := cX2_favouriteBeast) (nL := 5) (ret := (some .int)) (by decide) rfl (Nat.le_of_ble_eq_true rfl) [] rfl (lv0 := [(0, .ref aX)]) rfl ?_
  intro p e s m args below meth c K
  refine z_iconst (v := (-1)) K dX2_favouriteBeast_0 (by decide) ?_
  refine z_istore_n (lv' := [(1, .int (-1)), (0, .ref aX)]) K dX2_favouriteBeast_1 (by decide) rfl ?_
  refine z_iconst (v := 0) K dX2_favouriteBeast_2 (by decide) ?_
  refine z_istore_n (lv' := [(2, .int 0), (1, .int (-1)), (0, .ref aX)]) K dX2_favouriteBeast_3 (by decide) rfl ?_
  refine z_iconst (v := 0) K dX2_favouriteBeast_4 (by decide) ?_
  refine z_istore_n (lv' := [(3, .int 0), (2, .int 0), (1, .int (-1)), (0, .ref aX)]) K dX2_favouriteBeast_5 (by decide) rfl ?_
  refine z_loop (wsf := fun k => [(aX, .inr (2, [.ref aB, .ref aL, .ref aT, .int se])), (aB, .inr (0, [.int (nI n), .ref aB0, .ref aB1, .ref aB2, .ref aB3, .ref aB4, .ref aB5])), (aB1, .inl (cI, 20, .inl fb)), (aL, .inr (1, [.ref aL0, .ref aL1, .ref aL2, .ref aL3, .ref aL4, .ref aL5, .int hu])), (aL3, .inl (cI, 6, .inl lt))]) (lvf := fun k => [(3, .int (nI k)), (2, .int ((favB lt fb n k).2)), (1, .int ((favB lt fb n k).1)), (0, .ref aX)]) 12 rfl rfl ?_ (fun k hk ihk => ?_)
  · refine z_iload_n K 0 dX2_favouriteBeast_6 rfl ?_
    refine z_bipush (v := 12) K dX2_favouriteBeast_7 (by decide) ?_
    refine z_cmpN K 46 12 12 dX2_favouriteBeast_9 (by decide) rfl rfl (by omega) (by omega) (fun _ => ?_) (fun h => absurd h (by omega))
    refine z_iload_n K 2 dX2_favouriteBeast_46 rfl ?_
    exact z_iret K dX2_favouriteBeast_47 (rfl) [] rfl (by decide) (by decide)
  · refine z_iload_n K 0 dX2_favouriteBeast_6 rfl ?_
    refine z_bipush (v := 12) K dX2_favouriteBeast_7 (by decide) ?_
    refine z_cmpN K 46 k 12 dX2_favouriteBeast_9 (by decide) rfl rfl (by omega) (by omega) (fun h => absurd h (by omega)) (fun _ => ?_)
    refine z_aload_n K 3 dX2_favouriteBeast_12 rfl ?_
    refine z_get (C := RX2) (T := TX2) (N := 4) (ci := 2) K iX2 rfl 0 rfl 1 (by decide) (by decide +kernel) rfl rfl dX2_favouriteBeast_13 ?_
    refine z_aload_n K 3 dX2_favouriteBeast_16 rfl ?_
    refine z_get (C := RX2) (T := TX2) (N := 4) (ci := 2) K iX2 rfl 0 rfl 0 (by decide) (by decide +kernel) rfl rfl dX2_favouriteBeast_17 ?_
    refine z_iload_n K 0 dX2_favouriteBeast_20 rfl ?_
    refine z_callV (ws' := [(aX, .inr (2, [.ref aB, .ref aL, .ref aT, .int se])), (aB, .inr (0, [.int (nI n), .ref aB0, .ref aB1, .ref aB2, .ref aB3, .ref aB4, .ref aB5])), (aB1, .inl (cI, 20, .inl fb)), (aL, .inr (1, [.ref aL0, .ref aL1, .ref aL2, .ref aL3, .ref aL4, .ref aL5, .int hu])), (aL3, .inl (cI, 6, .inl lt))]) (st' := [.int (wbS fb (nI k) n), .ref aL]) (rest := [.ref aL]) (C := RX0) (T := TX0) (N := 7) K (m_X0_withBeast l G D cI cJ aB (nI k) n aB0 aB1 aB2 aB3 aB4 aB5 fb (by omega)) gX2_favouriteBeast_X0_withBeast rfl 1 0 (by decide +kernel) rfl dX2_favouriteBeast_21 [1, 2] 1 [] [] rfl rfl rfl ⟨by decide, by decide⟩ ⟨by decide, by decide⟩ rfl rfl rfl rfl rfl (Nat.le_of_ble_eq_true rfl) rfl rfl rfl rfl ?_
    refine z_callV (ws' := [(aX, .inr (2, [.ref aB, .ref aL, .ref aT, .int se])), (aB, .inr (0, [.int (nI n), .ref aB0, .ref aB1, .ref aB2, .ref aB3, .ref aB4, .ref aB5])), (aB1, .inl (cI, 20, .inl fb)), (aL, .inr (1, [.ref aL0, .ref aL1, .ref aL2, .ref aL3, .ref aL4, .ref aL5, .int hu])), (aL3, .inl (cI, 6, .inl lt))]) (st' := [.int (cntS lt (wbS fb (nI k) n) 6)]) (rest := []) (C := RX1) (T := TX1) (N := 7) K (m_X1_count l G D cI cJ aL (wbS fb (nI k) n) aL0 aL1 aL2 aL3 aL4 aL5 hu lt ) gX2_favouriteBeast_X1_count rfl 1 1 (by decide +kernel) rfl dX2_favouriteBeast_24 [3, 4] 3 [] [] rfl rfl rfl ⟨by decide, by decide⟩ ⟨by decide, by decide⟩ rfl rfl rfl rfl rfl (Nat.le_of_ble_eq_true rfl) rfl rfl rfl rfl ?_
    refine z_istore (lv' := [(4, .int (cntS lt (wbS fb (nI k) n) 6)), (3, .int (nI k)), (2, .int ((favB lt fb n k).2)), (1, .int ((favB lt fb n k).1)), (0, .ref aX)]) K dX2_favouriteBeast_27 (by decide) rfl ?_
    refine z_iload K 0 dX2_favouriteBeast_29 rfl ?_
    refine z_iload_n K 2 dX2_favouriteBeast_31 rfl ?_
    refine z_icmp_le K 40 dX2_favouriteBeast_32 (by decide) (fun c32 => ?_) (fun c32 => ?_)
    · refine z_iinc (lv' := [(3, .int (nI (k + 1))), (4, .int (cntS lt (wbS fb (nI k) n) 6)), (2, .int ((favB lt fb n k).2)), (1, .int ((favB lt fb n k).1)), (0, .ref aX)]) (v := nI (k + 1)) K 1 dX2_favouriteBeast_40 rfl (z_inc1 k) (by decide) rfl ?_
      refine z_goto K 6 dX2_favouriteBeast_43 (by decide) ?_
      refine z_lv (lv' := [(3, .int (nI (k + 1))), (2, .int ((favB lt fb n k).2)), (1, .int ((favB lt fb n k).1)), (0, .ref aX)]) [0, 2, 3, 4] rfl ?_
      rw [show ((favB lt fb n (k + 1)).2) = ((favB lt fb n k).2) from (by first | (simp only [favB_succ, c32, Bool.false_eq_true, if_false, if_true, ↓reduceIte]; done) | rfl | simp [favB_succ, c32])] at ihk
      rw [show ((favB lt fb n (k + 1)).1) = ((favB lt fb n k).1) from (by first | (simp only [favB_succ, c32, Bool.false_eq_true, if_false, if_true, ↓reduceIte]; done) | rfl | simp [favB_succ, c32])] at ihk
      exact ihk
    · refine z_iload K 0 dX2_favouriteBeast_35 rfl ?_
      refine z_istore_n (lv' := [(2, .int (cntS lt (wbS fb (nI k) n) 6)), (4, .int (cntS lt (wbS fb (nI k) n) 6)), (3, .int (nI k)), (1, .int ((favB lt fb n k).1)), (0, .ref aX)]) K dX2_favouriteBeast_37 (by decide) rfl ?_
      refine z_iload_n K 2 dX2_favouriteBeast_38 rfl ?_
      refine z_istore_n (lv' := [(1, .int (nI k)), (2, .int (cntS lt (wbS fb (nI k) n) 6)), (4, .int (cntS lt (wbS fb (nI k) n) 6)), (3, .int (nI k)), (0, .ref aX)]) K dX2_favouriteBeast_39 (by decide) rfl ?_
      refine z_iinc (lv' := [(3, .int (nI (k + 1))), (1, .int (nI k)), (2, .int (cntS lt (wbS fb (nI k) n) 6)), (4, .int (cntS lt (wbS fb (nI k) n) 6)), (0, .ref aX)]) (v := nI (k + 1)) K 3 dX2_favouriteBeast_40 rfl (z_inc1 k) (by decide) rfl ?_
      refine z_goto K 6 dX2_favouriteBeast_43 (by decide) ?_
      refine z_lv (lv' := [(3, .int (nI (k + 1))), (2, .int (cntS lt (wbS fb (nI k) n) 6)), (1, .int (nI k)), (0, .ref aX)]) [0, 2, 1, 4] rfl ?_
      rw [show ((favB lt fb n (k + 1)).2) = (cntS lt (wbS fb (nI k) n) 6) from (by first | (simp only [favB_succ, c32, Bool.false_eq_true, if_false, if_true, ↓reduceIte]; done) | rfl | simp [favB_succ, c32])] at ihk
      rw [show ((favB lt fb n (k + 1)).1) = (nI k) from (by first | (simp only [favB_succ, c32, Bool.false_eq_true, if_false, if_true, ↓reduceIte]; done) | rfl | simp [favB_succ, c32])] at ihk
      exact ihk
