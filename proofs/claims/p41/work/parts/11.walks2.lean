set_option maxRecDepth 100000 in
set_option maxHeartbeats 4000000 in
theorem m_X2_needFable (l : Launch) (G : Nat → Prop) (D : va_G) (cI cZ cQ cW : ClassId) (aX : Nat) (f : Nat) (aB : Nat) (aL : Nat) (aT : Nat) (se : Int32) (n : Nat) (aB0 : Nat) (aB1 : Nat) (aB2 : Nat) (aB3 : Nat) (aB4 : Nat) (aB5 : Nat) (hn : n ≤ 20) (hf : f < n) : z_M l yX2_needFable wsX2_needFable { frames := 0, cells := 0, slots := 0, locals := 0 } G D [(cI, .int), (cZ, .boolean), (cQ, .array .int), (cW, .array .boolean)] [.ref aX, .int (nI f)] ([(aX, .inr (2, [.ref aB, .ref aL, .ref aT, .int se])), (aB, .inr (0, [.int (nI n), .ref aB0, .ref aB1, .ref aB2, .ref aB3, .ref aB4, .ref aB5]))]) none [] 0 0 := by
  have iX2 : ∀ w ∈ u_ws RX2 TX2 4, w ∈ wsX2_needFable := fun w h => List.mem_cons_of_mem _ (List.mem_append_left _ (List.mem_append_left _ (List.mem_append_right _ h)))
  have iX0 : ∀ w ∈ u_ws RX0 TX0 7, w ∈ wsX2_needFable := fun w h => List.mem_cons_of_mem _ (List.mem_append_left _ (List.mem_append_right _ h))
  refine z_ofW (cc := cX2_needFable) (nL := 2) (ret := none) (by decide) rfl (Nat.le_of_ble_eq_true rfl) [] rfl (lv0 := [(0, .ref aX), (1, .int (nI f))]) rfl ?_
  intro p e s m args below meth c K
  refine z_iload_n K 1 dX2_needFable_0 rfl ?_
  refine z_if_lt K 15 dX2_needFable_1 (by decide) (fun c1 => ?_) (fun c1 => ?_)
  · exact absurd c1 (nI_pos (by omega))
  · refine z_iload_n K 1 dX2_needFable_4 rfl ?_
    refine z_aload_n K 0 dX2_needFable_5 rfl ?_
    refine z_get (C := RX2) (T := TX2) (N := 4) (ci := 2) K iX2 rfl 0 rfl 0 (by decide) (by decide +kernel) rfl rfl dX2_needFable_6 ?_
    refine z_get (C := RX0) (T := TX0) (N := 7) (ci := 0) K iX0 rfl 1 rfl 0 (by decide) (by decide +kernel) rfl rfl dX2_needFable_9 ?_
    refine z_icmp_lt K 25 dX2_needFable_12 (by decide) (fun c12 => ?_) (fun c12 => ?_)
    · exact z_vret K dX2_needFable_25 [] rfl (by decide) (by decide)
    · exact absurd ((nI_ltI (a := f) (b := n) (by omega) (by omega)).mpr hf) c12

set_option maxRecDepth 100000 in
set_option maxHeartbeats 4000000 in
theorem m_X2_needFreePage (l : Launch) (G : Nat → Prop) (D : va_G) (cI cZ cQ cW : ClassId) (aX : Nat) (aB : Nat) (aL : Nat) (aT : Nat) (se : Int32) (n : Nat) (aB0 : Nat) (aB1 : Nat) (aB2 : Nat) (aB3 : Nat) (aB4 : Nat) (aB5 : Nat) (hn : n ≤ 20) (hn2 : n < 20) : z_M l yX2_needFreePage wsX2_needFreePage { frames := 0, cells := 0, slots := 0, locals := 0 } G D [(cI, .int), (cZ, .boolean), (cQ, .array .int), (cW, .array .boolean)] [.ref aX] ([(aX, .inr (2, [.ref aB, .ref aL, .ref aT, .int se])), (aB, .inr (0, [.int (nI n), .ref aB0, .ref aB1, .ref aB2, .ref aB3, .ref aB4, .ref aB5]))]) none [] 0 0 := by
  have iX2 : ∀ w ∈ u_ws RX2 TX2 4, w ∈ wsX2_needFreePage := fun w h => List.mem_cons_of_mem _ (List.mem_append_left _ (List.mem_append_left _ (List.mem_append_right _ h)))
  have iX0 : ∀ w ∈ u_ws RX0 TX0 7, w ∈ wsX2_needFreePage := fun w h => List.mem_cons_of_mem _ (List.mem_append_left _ (List.mem_append_right _ h))
  refine z_ofW (cc := cX2_needFreePage) (nL := 1) (ret := none) (by decide) rfl (Nat.le_of_ble_eq_true rfl) [] rfl (lv0 := [(0, .ref aX)]) rfl ?_
  intro p e s m args below meth c K
  refine z_aload_n K 0 dX2_needFreePage_0 rfl ?_
  refine z_get (C := RX2) (T := TX2) (N := 4) (ci := 2) K iX2 rfl 0 rfl 0 (by decide) (by decide +kernel) rfl rfl dX2_needFreePage_1 ?_
  refine z_get (C := RX0) (T := TX0) (N := 7) (ci := 0) K iX0 rfl 1 rfl 0 (by decide) (by decide +kernel) rfl rfl dX2_needFreePage_4 ?_
  refine z_bipush (v := 20) K dX2_needFreePage_7 (by decide) ?_
  refine z_icmp_lt K 22 dX2_needFreePage_9 (by decide) (fun c9 => ?_) (fun c9 => ?_)
  · exact z_vret K dX2_needFreePage_22 [] rfl (by decide) (by decide)
  · exact absurd ((nI_ltI (a := n) (b := 20) (by omega) (by omega)).mpr hn2) c9

set_option maxRecDepth 100000 in
set_option maxHeartbeats 4000000 in
theorem m_X2_needMoral (l : Launch) (G : Nat → Prop) (D : va_G) (cI cZ cQ cW : ClassId) (mo : Nat) (hm : mo < 10) : z_M l yX2_needMoral wsX2_needMoral { frames := 0, cells := 0, slots := 0, locals := 0 } G D [(cI, .int), (cZ, .boolean), (cQ, .array .int), (cW, .array .boolean)] [.int (nI mo)] ([]) none [] 0 0 := by
  refine z_ofW (cc := cX2_needMoral) (nL := 1) (ret := none) (by decide) rfl (Nat.le_of_ble_eq_true rfl) [] rfl (lv0 := [(0, .int (nI mo))]) rfl ?_
  intro p e s m args below meth c K
  refine z_iload_n K 0 dX2_needMoral_0 rfl ?_
  refine z_if_lt K 10 dX2_needMoral_1 (by decide) (fun c1 => ?_) (fun c1 => ?_)
  · exact absurd c1 (nI_pos (by omega))
  · refine z_iload_n K 0 dX2_needMoral_4 rfl ?_
    refine z_bipush (v := 10) K dX2_needMoral_5 (by decide) ?_
    refine z_icmp_lt K 20 dX2_needMoral_7 (by decide) (fun c7 => ?_) (fun c7 => ?_)
    · exact z_vret K dX2_needMoral_20 [] rfl (by decide) (by decide)
    · exact absurd ((nI_ltI (a := mo) (b := 10) (by omega) (by omega)).mpr hm) c7

set_option maxRecDepth 100000 in
set_option maxHeartbeats 4000000 in
theorem m_X2_needBeast (l : Launch) (G : Nat → Prop) (D : va_G) (cI cZ cQ cW : ClassId) (b : Nat) (hb : b < 12) : z_M l yX2_needBeast wsX2_needBeast { frames := 0, cells := 0, slots := 0, locals := 0 } G D [(cI, .int), (cZ, .boolean), (cQ, .array .int), (cW, .array .boolean)] [.int (nI b)] ([]) none [] 0 0 := by
  refine z_ofW (cc := cX2_needBeast) (nL := 1) (ret := none) (by decide) rfl (Nat.le_of_ble_eq_true rfl) [] rfl (lv0 := [(0, .int (nI b))]) rfl ?_
  intro p e s m args below meth c K
  refine z_iload_n K 0 dX2_needBeast_0 rfl ?_
  refine z_if_lt K 10 dX2_needBeast_1 (by decide) (fun c1 => ?_) (fun c1 => ?_)
  · exact absurd c1 (nI_pos (by omega))
  · refine z_iload_n K 0 dX2_needBeast_4 rfl ?_
    refine z_bipush (v := 12) K dX2_needBeast_5 (by decide) ?_
    refine z_icmp_lt K 20 dX2_needBeast_7 (by decide) (fun c7 => ?_) (fun c7 => ?_)
    · exact z_vret K dX2_needBeast_20 [] rfl (by decide) (by decide)
    · exact absurd ((nI_ltI (a := b) (b := 12) (by omega) (by omega)).mpr hb) c7

set_option maxRecDepth 100000 in
set_option maxHeartbeats 4000000 in
theorem m_X2_needValley (l : Launch) (G : Nat → Prop) (D : va_G) (cI cZ cQ cW : ClassId) (v : Nat) (hv : v < 6) : z_M l yX2_needValley wsX2_needValley { frames := 0, cells := 0, slots := 0, locals := 0 } G D [(cI, .int), (cZ, .boolean), (cQ, .array .int), (cW, .array .boolean)] [.int (nI v)] ([]) none [] 0 0 := by
  refine z_ofW (cc := cX2_needValley) (nL := 1) (ret := none) (by decide) rfl (Nat.le_of_ble_eq_true rfl) [] rfl (lv0 := [(0, .int (nI v))]) rfl ?_
  intro p e s m args below meth c K
  refine z_iload_n K 0 dX2_needValley_0 rfl ?_
  refine z_if_lt K 10 dX2_needValley_1 (by decide) (fun c1 => ?_) (fun c1 => ?_)
  · exact absurd c1 (nI_pos (by omega))
  · refine z_iload_n K 0 dX2_needValley_4 rfl ?_
    refine z_bipush (v := 6) K dX2_needValley_5 (by decide) ?_
    refine z_icmp_lt K 20 dX2_needValley_7 (by decide) (fun c7 => ?_) (fun c7 => ?_)
    · exact z_vret K dX2_needValley_20 [] rfl (by decide) (by decide)
    · exact absurd ((nI_ltI (a := v) (b := 6) (by omega) (by omega)).mpr hv) c7

set_option maxRecDepth 100000 in
set_option maxHeartbeats 4000000 in
theorem m_X2_needSeasons (l : Launch) (G : Nat → Prop) (D : va_G) (cI cZ cQ cW : ClassId) (q : Nat) (hq1 : 1 ≤ q) (hq : q ≤ 40) : z_M l yX2_needSeasons wsX2_needSeasons { frames := 0, cells := 0, slots := 0, locals := 0 } G D [(cI, .int), (cZ, .boolean), (cQ, .array .int), (cW, .array .boolean)] [.int (nI q), .int 40] ([]) none [] 0 0 := by
  refine z_ofW (cc := cX2_needSeasons) (nL := 2) (ret := none) (by decide) rfl (Nat.le_of_ble_eq_true rfl) [] rfl (lv0 := [(0, .int (nI q)), (1, .int 40)]) rfl ?_
  intro p e s m args below meth c K
  refine z_iload_n K 0 dX2_needSeasons_0 rfl ?_
  refine z_iconst (v := 1) K dX2_needSeasons_1 (by decide) ?_
  refine z_icmp_lt K 10 dX2_needSeasons_2 (by decide) (fun c2 => ?_) (fun c2 => ?_)
  · exact absurd ((nI_ltI (a := q) (b := 1) (by omega) (by omega)).mp c2) (by omega)
  · refine z_iload_n K 0 dX2_needSeasons_5 rfl ?_
    refine z_iload_n K 1 dX2_needSeasons_6 rfl ?_
    refine z_icmp_le K 20 dX2_needSeasons_7 (by decide) (fun c7 => ?_) (fun c7 => ?_)
    · exact z_vret K dX2_needSeasons_20 [] rfl (by decide) (by decide)
    · exact absurd ((nI_leI (a := q) (b := 40) (by omega) (by omega)).mpr hq) c7

set_option maxRecDepth 100000 in
set_option maxHeartbeats 4000000 in
theorem m_X2_addFable (l : Launch) (G : Nat → Prop) (D : va_G) (cI cZ cQ cW : ClassId) (aX : Nat) (mo : Nat) (b : Nat) (v : Nat) (aB : Nat) (aL : Nat) (aT : Nat) (se : Int32) (n : Nat) (aB0 : Nat) (aB1 : Nat) (aB2 : Nat) (aB3 : Nat) (aB4 : Nat) (aB5 : Nat) (fm : Nat → Int32) (fb : Nat → Int32) (fh : Nat → Int32) (fp : Nat → Int32) (fv : Nat → Int32) (fa : Nat → Int32) (hn : n ≤ 20) (hm : mo < 10) (hb : b < 12) (hv : v < 6) (hn2 : n < 20) : z_M l yX2_addFable wsX2_addFable { frames := 1, cells := 0, slots := 0, locals := 25 } G D [(cI, .int), (cZ, .boolean), (cQ, .array .int), (cW, .array .boolean)] [.ref aX, .int (nI mo), .int (nI b), .int (nI v)] ([(aX, .inr (2, [.ref aB, .ref aL, .ref aT, .int se])), (aB, .inr (0, [.int (nI n), .ref aB0, .ref aB1, .ref aB2, .ref aB3, .ref aB4, .ref aB5])), (aB0, .inl (cI, 20, .inl fm)), (aB1, .inl (cI, 20, .inl fb)), (aB2, .inl (cI, 20, .inl fh)), (aB3, .inl (cI, 20, .inl fp)), (aB4, .inl (cI, 20, .inl fv)), (aB5, .inl (cI, 20, .inl fa))]) (some (.int (nI n))) [(aB, .inr (0, [.int (nI (n + 1)), .ref aB0, .ref aB1, .ref aB2, .ref aB3, .ref aB4, .ref aB5])), (aB0, .inl (cI, 20, .inl (upd fm n (nI mo)))), (aB1, .inl (cI, 20, .inl (upd fb n ((1 : Int32) <<< (nI b &&& 31))))), (aB2, .inl (cI, 20, .inl (upd fh n (nI v)))), (aB3, .inl (cI, 20, .inl (upd fp n (-1)))), (aB4, .inl (cI, 20, .inl (wrV fv n (-1)))), (aB5, .inl (cI, 20, .inl (wrA fa n (-1))))] 0 0 := by
  have iX2 : ∀ w ∈ u_ws RX2 TX2 4, w ∈ wsX2_addFable := fun w h => List.mem_cons_of_mem _ (List.mem_append_left _ (List.mem_append_left _ (List.mem_append_left _ (List.mem_append_right _ h))))
  have iX0 : ∀ w ∈ u_ws RX0 TX0 7, w ∈ wsX2_addFable := fun w h => List.mem_cons_of_mem _ (List.mem_append_left _ (List.mem_append_left _ (List.mem_append_right _ h)))
  refine z_ofW (cc := cX2_addFable) (nL := 4) (ret := (some .int)) (by decide) rfl (Nat.le_of_ble_eq_true rfl) [1, 2, 3, 4, 5, 6, 7] rfl (lv0 := [(0, .ref aX), (1, .int (nI mo)), (2, .int (nI b)), (3, .int (nI v))]) rfl ?_
  intro p e s m args below meth c K
  refine z_iload_n K 1 dX2_addFable_0 rfl ?_
  refine z_callS (ws' := [(aX, .inr (2, [.ref aB, .ref aL, .ref aT, .int se])), (aB, .inr (0, [.int (nI n), .ref aB0, .ref aB1, .ref aB2, .ref aB3, .ref aB4, .ref aB5])), (aB0, .inl (cI, 20, .inl fm)), (aB1, .inl (cI, 20, .inl fb)), (aB2, .inl (cI, 20, .inl fh)), (aB3, .inl (cI, 20, .inl fp)), (aB4, .inl (cI, 20, .inl fv)), (aB5, .inl (cI, 20, .inl fa))]) (st' := []) (rest := []) K (m_X2_needMoral l _ D cI cZ cQ cW mo (by omega)) gX2_addFable_X2_needMoral rfl 1 (by decide +kernel) dX2_addFable_1 [] [] [] rfl rfl rfl ⟨by decide, by decide⟩ ⟨by decide, by decide⟩ rfl rfl rfl rfl (Nat.le_of_ble_eq_true rfl) rfl rfl rfl rfl ?_
  refine z_iload_n K 2 dX2_addFable_4 rfl ?_
  refine z_callS (ws' := [(aX, .inr (2, [.ref aB, .ref aL, .ref aT, .int se])), (aB, .inr (0, [.int (nI n), .ref aB0, .ref aB1, .ref aB2, .ref aB3, .ref aB4, .ref aB5])), (aB0, .inl (cI, 20, .inl fm)), (aB1, .inl (cI, 20, .inl fb)), (aB2, .inl (cI, 20, .inl fh)), (aB3, .inl (cI, 20, .inl fp)), (aB4, .inl (cI, 20, .inl fv)), (aB5, .inl (cI, 20, .inl fa))]) (st' := []) (rest := []) K (m_X2_needBeast l _ D cI cZ cQ cW b (by omega)) gX2_addFable_X2_needBeast rfl 1 (by decide +kernel) dX2_addFable_5 [] [] [] rfl rfl rfl ⟨by decide, by decide⟩ ⟨by decide, by decide⟩ rfl rfl rfl rfl (Nat.le_of_ble_eq_true rfl) rfl rfl rfl rfl ?_
  refine z_iload_n K 3 dX2_addFable_8 rfl ?_
  refine z_callS (ws' := [(aX, .inr (2, [.ref aB, .ref aL, .ref aT, .int se])), (aB, .inr (0, [.int (nI n), .ref aB0, .ref aB1, .ref aB2, .ref aB3, .ref aB4, .ref aB5])), (aB0, .inl (cI, 20, .inl fm)), (aB1, .inl (cI, 20, .inl fb)), (aB2, .inl (cI, 20, .inl fh)), (aB3, .inl (cI, 20, .inl fp)), (aB4, .inl (cI, 20, .inl fv)), (aB5, .inl (cI, 20, .inl fa))]) (st' := []) (rest := []) K (m_X2_needValley l _ D cI cZ cQ cW v (by omega)) gX2_addFable_X2_needValley rfl 1 (by decide +kernel) dX2_addFable_9 [] [] [] rfl rfl rfl ⟨by decide, by decide⟩ ⟨by decide, by decide⟩ rfl rfl rfl rfl (Nat.le_of_ble_eq_true rfl) rfl rfl rfl rfl ?_
  refine z_aload_n K 0 dX2_addFable_12 rfl ?_
  refine z_callV (ws' := [(aX, .inr (2, [.ref aB, .ref aL, .ref aT, .int se])), (aB, .inr (0, [.int (nI n), .ref aB0, .ref aB1, .ref aB2, .ref aB3, .ref aB4, .ref aB5])), (aB0, .inl (cI, 20, .inl fm)), (aB1, .inl (cI, 20, .inl fb)), (aB2, .inl (cI, 20, .inl fh)), (aB3, .inl (cI, 20, .inl fp)), (aB4, .inl (cI, 20, .inl fv)), (aB5, .inl (cI, 20, .inl fa))]) (st' := []) (rest := []) (C := RX2) (T := TX2) (N := 4) K (m_X2_needFreePage l _ D cI cZ cQ cW aX aB aL aT se n aB0 aB1 aB2 aB3 aB4 aB5 (by omega) (by omega)) gX2_addFable_X2_needFreePage rfl 0 2 (by decide +kernel) rfl dX2_addFable_13 [0, 1] 0 [] [] rfl rfl rfl ⟨by decide, by decide⟩ ⟨by decide, by decide⟩ rfl rfl rfl rfl rfl (Nat.le_of_ble_eq_true rfl) rfl rfl rfl rfl ?_
  refine z_aload_n K 0 dX2_addFable_16 rfl ?_
  refine z_get (C := RX2) (T := TX2) (N := 4) (ci := 2) K iX2 rfl 0 rfl 0 (by decide) (by decide +kernel) rfl rfl dX2_addFable_17 ?_
  refine z_iload_n K 1 dX2_addFable_20 rfl ?_
  refine z_iconst (v := 1) K dX2_addFable_21 (by decide) ?_
  refine z_iload_n K 2 dX2_addFable_22 rfl ?_
  refine z_ishl K dX2_addFable_23 ?_
  refine z_iload_n K 3 dX2_addFable_24 rfl ?_
  refine z_iconst (v := (-1)) K dX2_addFable_25 (by decide) ?_
  refine z_callV (ws' := [(aX, .inr (2, [.ref aB, .ref aL, .ref aT, .int se])), (aB, .inr (0, [.int (nI (n + 1)), .ref aB0, .ref aB1, .ref aB2, .ref aB3, .ref aB4, .ref aB5])), (aB0, .inl (cI, 20, .inl (upd fm n (nI mo)))), (aB1, .inl (cI, 20, .inl (upd fb n ((1 : Int32) <<< (nI b &&& 31))))), (aB2, .inl (cI, 20, .inl (upd fh n (nI v)))), (aB3, .inl (cI, 20, .inl (upd fp n (-1)))), (aB4, .inl (cI, 20, .inl (wrV fv n (-1)))), (aB5, .inl (cI, 20, .inl (wrA fa n (-1))))]) (st' := [.int (nI n)]) (rest := []) (C := RX0) (T := TX0) (N := 7) K (m_X0_write l _ D cI cZ cQ cW aB (nI mo) ((1 : Int32) <<< (nI b &&& 31)) (nI v) (-1) n aB0 aB1 aB2 aB3 aB4 aB5 fm fb fh fp fv fa (by omega) (Or.inl rfl)) gX2_addFable_X0_write rfl 4 0 (by decide +kernel) rfl dX2_addFable_26 [1, 2, 3, 4, 5, 6, 7] 1 [1, 2, 3, 4, 5, 6, 7] [0, 1, 2, 3, 4, 5, 6] rfl rfl rfl ⟨by decide, by decide⟩ ⟨by decide, by decide⟩ rfl rfl rfl rfl rfl (Nat.le_of_ble_eq_true rfl) rfl rfl rfl rfl ?_
  exact z_iret K dX2_addFable_29 (rfl) [1, 2, 3, 4, 5, 6, 7] rfl (by decide) (by decide)

set_option maxRecDepth 100000 in
set_option maxHeartbeats 4000000 in
theorem m_X2_addBeast (l : Launch) (G : Nat → Prop) (D : va_G) (cI cZ cQ cW : ClassId) (aX : Nat) (f : Nat) (b : Nat) (aB : Nat) (aL : Nat) (aT : Nat) (se : Int32) (n : Nat) (aB0 : Nat) (aB1 : Nat) (aB2 : Nat) (aB3 : Nat) (aB4 : Nat) (aB5 : Nat) (fb : Nat → Int32) (fv : Nat → Int32) (hn : n ≤ 20) (hf : f < n) (hb : b < 12) (hnb : hs (fb f) (nI b) = false) (hnv : fv f = 0) : z_M l yX2_addBeast wsX2_addBeast { frames := 2, cells := 0, slots := 0, locals := 40 } G D [(cI, .int), (cZ, .boolean), (cQ, .array .int), (cW, .array .boolean)] [.ref aX, .int (nI f), .int (nI b)] ([(aX, .inr (2, [.ref aB, .ref aL, .ref aT, .int se])), (aB, .inr (0, [.int (nI n), .ref aB0, .ref aB1, .ref aB2, .ref aB3, .ref aB4, .ref aB5])), (aB1, .inl (cI, 20, .inl fb)), (aB4, .inl (cI, 20, .inl fv))]) (some (.int (pc (fb f ||| ((1 : Int32) <<< (nI b &&& 31)))))) [(aB1, .inl (cI, 20, .inl (upd fb f (fb f ||| ((1 : Int32) <<< (nI b &&& 31))))))] 0 0 := by
  have iX2 : ∀ w ∈ u_ws RX2 TX2 4, w ∈ wsX2_addBeast := fun w h => List.mem_cons_of_mem _ (List.mem_append_left _ (List.mem_append_left _ (List.mem_append_left _ (List.mem_append_right _ h))))
  have iX0 : ∀ w ∈ u_ws RX0 TX0 7, w ∈ wsX2_addBeast := fun w h => List.mem_cons_of_mem _ (List.mem_append_left _ (List.mem_append_left _ (List.mem_append_right _ h)))
  refine z_ofW (cc := cX2_addBeast) (nL := 3) (ret := (some .int)) (by decide) rfl (Nat.le_of_ble_eq_true rfl) [2] rfl (lv0 := [(0, .ref aX), (1, .int (nI f)), (2, .int (nI b))]) rfl ?_
  intro p e s m args below meth c K
  refine z_aload_n K 0 dX2_addBeast_0 rfl ?_
  refine z_iload_n K 1 dX2_addBeast_1 rfl ?_
  refine z_callV (ws' := [(aX, .inr (2, [.ref aB, .ref aL, .ref aT, .int se])), (aB, .inr (0, [.int (nI n), .ref aB0, .ref aB1, .ref aB2, .ref aB3, .ref aB4, .ref aB5])), (aB1, .inl (cI, 20, .inl fb)), (aB4, .inl (cI, 20, .inl fv))]) (st' := []) (rest := []) (C := RX2) (T := TX2) (N := 4) K (m_X2_needFable l _ D cI cZ cQ cW aX f aB aL aT se n aB0 aB1 aB2 aB3 aB4 aB5 (by omega) (by omega)) gX2_addBeast_X2_needFable rfl 1 2 (by decide +kernel) rfl dX2_addBeast_2 [0, 1] 0 [] [] rfl rfl rfl ⟨by decide, by decide⟩ ⟨by decide, by decide⟩ rfl rfl rfl rfl rfl (Nat.le_of_ble_eq_true rfl) rfl rfl rfl rfl ?_
  refine z_iload_n K 2 dX2_addBeast_5 rfl ?_
  refine z_callS (ws' := [(aX, .inr (2, [.ref aB, .ref aL, .ref aT, .int se])), (aB, .inr (0, [.int (nI n), .ref aB0, .ref aB1, .ref aB2, .ref aB3, .ref aB4, .ref aB5])), (aB1, .inl (cI, 20, .inl fb)), (aB4, .inl (cI, 20, .inl fv))]) (st' := []) (rest := []) K (m_X2_needBeast l _ D cI cZ cQ cW b (by omega)) gX2_addBeast_X2_needBeast rfl 1 (by decide +kernel) dX2_addBeast_6 [] [] [] rfl rfl rfl ⟨by decide, by decide⟩ ⟨by decide, by decide⟩ rfl rfl rfl rfl (Nat.le_of_ble_eq_true rfl) rfl rfl rfl rfl ?_
  refine z_aload_n K 0 dX2_addBeast_9 rfl ?_
  refine z_get (C := RX2) (T := TX2) (N := 4) (ci := 2) K iX2 rfl 0 rfl 0 (by decide) (by decide +kernel) rfl rfl dX2_addBeast_10 ?_
  refine z_get (C := RX0) (T := TX0) (N := 7) (ci := 0) K iX0 rfl 1 rfl 2 (by decide) (by decide +kernel) rfl rfl dX2_addBeast_13 ?_
  refine z_iload_n K 1 dX2_addBeast_16 rfl ?_
  refine z_ialdN K 2 0 f (by omega) (by omega) rfl rfl dX2_addBeast_17 ?_
  refine z_iload_n K 2 dX2_addBeast_18 rfl ?_
  refine z_callS (ws' := [(aX, .inr (2, [.ref aB, .ref aL, .ref aT, .int se])), (aB, .inr (0, [.int (nI n), .ref aB0, .ref aB1, .ref aB2, .ref aB3, .ref aB4, .ref aB5])), (aB1, .inl (cI, 20, .inl fb)), (aB4, .inl (cI, 20, .inl fv))]) (st' := [.int (z_b (hs (fb f) (nI b)))]) (rest := []) K (m_X2_has l _ D cI cZ cQ cW (fb f) (nI b) ) gX2_addBeast_X2_has rfl 2 (by decide +kernel) dX2_addBeast_19 [] [] [] rfl rfl rfl ⟨by decide, by decide⟩ ⟨by decide, by decide⟩ rfl rfl rfl rfl (Nat.le_of_ble_eq_true rfl) rfl rfl rfl rfl ?_
  refine z_if_eqB K 35 dX2_addBeast_22 (by decide) (fun c22 => ?_) (fun c22 => ?_)
  · refine z_aload_n K 0 dX2_addBeast_35 rfl ?_
    refine z_get (C := RX2) (T := TX2) (N := 4) (ci := 2) K iX2 rfl 0 rfl 0 (by decide) (by decide +kernel) rfl rfl dX2_addBeast_36 ?_
    refine z_get (C := RX0) (T := TX0) (N := 7) (ci := 0) K iX0 rfl 1 rfl 5 (by decide) (by decide +kernel) rfl rfl dX2_addBeast_39 ?_
    refine z_iload_n K 1 dX2_addBeast_42 rfl ?_
    refine z_ialdN K 3 0 f (by omega) (by omega) rfl rfl dX2_addBeast_43 ?_
    refine z_if_eq K 57 dX2_addBeast_44 (by decide) (fun c44 => ?_) (fun c44 => ?_)
    · refine z_aload_n K 0 dX2_addBeast_57 rfl ?_
      refine z_get (C := RX2) (T := TX2) (N := 4) (ci := 2) K iX2 rfl 0 rfl 0 (by decide) (by decide +kernel) rfl rfl dX2_addBeast_58 ?_
      refine z_get (C := RX0) (T := TX0) (N := 7) (ci := 0) K iX0 rfl 1 rfl 2 (by decide) (by decide +kernel) rfl rfl dX2_addBeast_61 ?_
      refine z_iload_n K 1 dX2_addBeast_64 rfl ?_
      refine z_dup2 K dX2_addBeast_65 rfl rfl ?_
      refine z_ialdN K 2 0 f (by omega) (by omega) rfl rfl dX2_addBeast_66 ?_
      refine z_iconst (v := 1) K dX2_addBeast_67 (by decide) ?_
      refine z_iload_n K 2 dX2_addBeast_68 rfl ?_
      refine z_ishl K dX2_addBeast_69 ?_
      refine z_ior K dX2_addBeast_70 ?_
      refine z_iastN K 2 0 f (by omega) (by omega) rfl rfl dX2_addBeast_71 (z_memA 0 rfl) (ws' := [(aX, .inr (2, [.ref aB, .ref aL, .ref aT, .int se])), (aB, .inr (0, [.int (nI n), .ref aB0, .ref aB1, .ref aB2, .ref aB3, .ref aB4, .ref aB5])), (aB1, .inl (cI, 20, .inl (upd fb f ((fb f) ||| ((1 : Int32) <<< (nI b &&& 31)))))), (aB4, .inl (cI, 20, .inl fv))]) rfl ?_
      refine z_aload_n K 0 dX2_addBeast_72 rfl ?_
      refine z_get (C := RX2) (T := TX2) (N := 4) (ci := 2) K iX2 rfl 0 rfl 0 (by decide) (by decide +kernel) rfl rfl dX2_addBeast_73 ?_
      refine z_get (C := RX0) (T := TX0) (N := 7) (ci := 0) K iX0 rfl 1 rfl 2 (by decide) (by decide +kernel) rfl rfl dX2_addBeast_76 ?_
      refine z_iload_n K 1 dX2_addBeast_79 rfl ?_
      refine z_ialdN K 2 0 f (by omega) (by omega) rfl rfl dX2_addBeast_80 ?_
      refine z_callS (ws' := [(aX, .inr (2, [.ref aB, .ref aL, .ref aT, .int se])), (aB, .inr (0, [.int (nI n), .ref aB0, .ref aB1, .ref aB2, .ref aB3, .ref aB4, .ref aB5])), (aB1, .inl (cI, 20, .inl (upd fb f ((fb f) ||| ((1 : Int32) <<< (nI b &&& 31)))))), (aB4, .inl (cI, 20, .inl fv))]) (st' := [.int (pc ((upd fb f ((fb f) ||| ((1 : Int32) <<< (nI b &&& 31)))) f))]) (rest := []) K (m_X2_size l _ D cI cZ cQ cW ((upd fb f ((fb f) ||| ((1 : Int32) <<< (nI b &&& 31)))) f) ) gX2_addBeast_X2_size rfl 1 (by decide +kernel) dX2_addBeast_81 [] [] [] rfl rfl rfl ⟨by decide, by decide⟩ ⟨by decide, by decide⟩ rfl rfl rfl rfl (Nat.le_of_ble_eq_true rfl) rfl rfl rfl rfl ?_
      rw [show (pc ((upd fb f ((fb f) ||| ((1 : Int32) <<< (nI b &&& 31)))) f)) = (pc (fb f ||| ((1 : Int32) <<< (nI b &&& 31)))) from (by first | (simp only [upd, c22, c44, Bool.false_eq_true, if_false, if_true, ↓reduceIte]; done) | rfl | simp [upd, c22, c44])]
      rw [show (upd fb f ((fb f) ||| ((1 : Int32) <<< (nI b &&& 31)))) = (upd fb f (fb f ||| ((1 : Int32) <<< (nI b &&& 31)))) from (by first | (simp only [upd, c22, c44, Bool.false_eq_true, if_false, if_true, ↓reduceIte]; done) | rfl | simp [upd, c22, c44])]
      exact z_iret K dX2_addBeast_84 (rfl) [2] rfl (by decide) (by decide)
    · first | exact absurd (hnb.symm.trans c44) (by decide) | exact absurd hnv c44
  · first | exact absurd (hnb.symm.trans c22) (by decide) | exact absurd hnv c22

set_option maxRecDepth 100000 in
set_option maxHeartbeats 4000000 in
theorem m_X2_addVariant (l : Launch) (G : Nat → Prop) (D : va_G) (cI cZ cQ cW : ClassId) (aX : Nat) (f : Nat) (x : Nat) (y : Nat) (v : Nat) (aB : Nat) (aL : Nat) (aT : Nat) (se : Int32) (n : Nat) (aB0 : Nat) (aB1 : Nat) (aB2 : Nat) (aB3 : Nat) (aB4 : Nat) (aB5 : Nat) (fm : Nat → Int32) (fb : Nat → Int32) (fh : Nat → Int32) (fp : Nat → Int32) (fv : Nat → Int32) (fa : Nat → Int32) (hn : n ≤ 20) (hf : f < n) (hx : x < 12) (hy : y < 12) (hv : v < 6) (hn2 : n < 20) (hgx : hs (fb f) (nI x) = true) (hcy : hs (fb f) (nI y) = false) : z_M l yX2_addVariant wsX2_addVariant { frames := 1, cells := 0, slots := 0, locals := 25 } G D [(cI, .int), (cZ, .boolean), (cQ, .array .int), (cW, .array .boolean)] [.ref aX, .int (nI f), .int (nI x), .int (nI y), .int (nI v)] ([(aX, .inr (2, [.ref aB, .ref aL, .ref aT, .int se])), (aB, .inr (0, [.int (nI n), .ref aB0, .ref aB1, .ref aB2, .ref aB3, .ref aB4, .ref aB5])), (aB0, .inl (cI, 20, .inl fm)), (aB1, .inl (cI, 20, .inl fb)), (aB2, .inl (cI, 20, .inl fh)), (aB3, .inl (cI, 20, .inl fp)), (aB4, .inl (cI, 20, .inl fv)), (aB5, .inl (cI, 20, .inl fa))]) (some (.int (nI n))) [(aB, .inr (0, [.int (nI (n + 1)), .ref aB0, .ref aB1, .ref aB2, .ref aB3, .ref aB4, .ref aB5])), (aB0, .inl (cI, 20, .inl (upd fm n (fm f)))), (aB1, .inl (cI, 20, .inl (upd fb n (tu (tu (fb f) (nI x)) (nI y))))), (aB2, .inl (cI, 20, .inl (upd fh n (nI v)))), (aB3, .inl (cI, 20, .inl (upd fp n (nI f)))), (aB4, .inl (cI, 20, .inl (wrV fv n (nI f)))), (aB5, .inl (cI, 20, .inl (wrA fa n (nI f))))] 0 0 := by
  have iX2 : ∀ w ∈ u_ws RX2 TX2 4, w ∈ wsX2_addVariant := fun w h => List.mem_cons_of_mem _ (List.mem_append_left _ (List.mem_append_left _ (List.mem_append_left _ (List.mem_append_right _ h))))
  have iX0 : ∀ w ∈ u_ws RX0 TX0 7, w ∈ wsX2_addVariant := fun w h => List.mem_cons_of_mem _ (List.mem_append_left _ (List.mem_append_left _ (List.mem_append_right _ h)))
  refine z_ofW (cc := cX2_addVariant) (nL := 6) (ret := (some .int)) (by decide) rfl (Nat.le_of_ble_eq_true rfl) [1, 2, 3, 4, 5, 6, 7] rfl (lv0 := [(0, .ref aX), (1, .int (nI f)), (2, .int (nI x)), (3, .int (nI y)), (4, .int (nI v))]) rfl ?_
  intro p e s m args below meth c K
  refine z_aload_n K 0 dX2_addVariant_0 rfl ?_
  refine z_iload_n K 1 dX2_addVariant_1 rfl ?_
  refine z_callV (ws' := [(aX, .inr (2, [.ref aB, .ref aL, .ref aT, .int se])), (aB, .inr (0, [.int (nI n), .ref aB0, .ref aB1, .ref aB2, .ref aB3, .ref aB4, .ref aB5])), (aB0, .inl (cI, 20, .inl fm)), (aB1, .inl (cI, 20, .inl fb)), (aB2, .inl (cI, 20, .inl fh)), (aB3, .inl (cI, 20, .inl fp)), (aB4, .inl (cI, 20, .inl fv)), (aB5, .inl (cI, 20, .inl fa))]) (st' := []) (rest := []) (C := RX2) (T := TX2) (N := 4) K (m_X2_needFable l _ D cI cZ cQ cW aX f aB aL aT se n aB0 aB1 aB2 aB3 aB4 aB5 (by omega) (by omega)) gX2_addVariant_X2_needFable rfl 1 2 (by decide +kernel) rfl dX2_addVariant_2 [0, 1] 0 [] [] rfl rfl rfl ⟨by decide, by decide⟩ ⟨by decide, by decide⟩ rfl rfl rfl rfl rfl (Nat.le_of_ble_eq_true rfl) rfl rfl rfl rfl ?_
  refine z_iload_n K 2 dX2_addVariant_5 rfl ?_
  refine z_callS (ws' := [(aX, .inr (2, [.ref aB, .ref aL, .ref aT, .int se])), (aB, .inr (0, [.int (nI n), .ref aB0, .ref aB1, .ref aB2, .ref aB3, .ref aB4, .ref aB5])), (aB0, .inl (cI, 20, .inl fm)), (aB1, .inl (cI, 20, .inl fb)), (aB2, .inl (cI, 20, .inl fh)), (aB3, .inl (cI, 20, .inl fp)), (aB4, .inl (cI, 20, .inl fv)), (aB5, .inl (cI, 20, .inl fa))]) (st' := []) (rest := []) K (m_X2_needBeast l _ D cI cZ cQ cW x (by omega)) gX2_addVariant_X2_needBeast rfl 1 (by decide +kernel) dX2_addVariant_6 [] [] [] rfl rfl rfl ⟨by decide, by decide⟩ ⟨by decide, by decide⟩ rfl rfl rfl rfl (Nat.le_of_ble_eq_true rfl) rfl rfl rfl rfl ?_
  refine z_iload_n K 3 dX2_addVariant_9 rfl ?_
  refine z_callS (ws' := [(aX, .inr (2, [.ref aB, .ref aL, .ref aT, .int se])), (aB, .inr (0, [.int (nI n), .ref aB0, .ref aB1, .ref aB2, .ref aB3, .ref aB4, .ref aB5])), (aB0, .inl (cI, 20, .inl fm)), (aB1, .inl (cI, 20, .inl fb)), (aB2, .inl (cI, 20, .inl fh)), (aB3, .inl (cI, 20, .inl fp)), (aB4, .inl (cI, 20, .inl fv)), (aB5, .inl (cI, 20, .inl fa))]) (st' := []) (rest := []) K (m_X2_needBeast l _ D cI cZ cQ cW y (by omega)) gX2_addVariant_X2_needBeast rfl 1 (by decide +kernel) dX2_addVariant_10 [] [] [] rfl rfl rfl ⟨by decide, by decide⟩ ⟨by decide, by decide⟩ rfl rfl rfl rfl (Nat.le_of_ble_eq_true rfl) rfl rfl rfl rfl ?_
  refine z_iload K 4 dX2_addVariant_13 rfl ?_
  refine z_callS (ws' := [(aX, .inr (2, [.ref aB, .ref aL, .ref aT, .int se])), (aB, .inr (0, [.int (nI n), .ref aB0, .ref aB1, .ref aB2, .ref aB3, .ref aB4, .ref aB5])), (aB0, .inl (cI, 20, .inl fm)), (aB1, .inl (cI, 20, .inl fb)), (aB2, .inl (cI, 20, .inl fh)), (aB3, .inl (cI, 20, .inl fp)), (aB4, .inl (cI, 20, .inl fv)), (aB5, .inl (cI, 20, .inl fa))]) (st' := []) (rest := []) K (m_X2_needValley l _ D cI cZ cQ cW v (by omega)) gX2_addVariant_X2_needValley rfl 1 (by decide +kernel) dX2_addVariant_15 [] [] [] rfl rfl rfl ⟨by decide, by decide⟩ ⟨by decide, by decide⟩ rfl rfl rfl rfl (Nat.le_of_ble_eq_true rfl) rfl rfl rfl rfl ?_
  refine z_aload_n K 0 dX2_addVariant_18 rfl ?_
  refine z_callV (ws' := [(aX, .inr (2, [.ref aB, .ref aL, .ref aT, .int se])), (aB, .inr (0, [.int (nI n), .ref aB0, .ref aB1, .ref aB2, .ref aB3, .ref aB4, .ref aB5])), (aB0, .inl (cI, 20, .inl fm)), (aB1, .inl (cI, 20, .inl fb)), (aB2, .inl (cI, 20, .inl fh)), (aB3, .inl (cI, 20, .inl fp)), (aB4, .inl (cI, 20, .inl fv)), (aB5, .inl (cI, 20, .inl fa))]) (st' := []) (rest := []) (C := RX2) (T := TX2) (N := 4) K (m_X2_needFreePage l _ D cI cZ cQ cW aX aB aL aT se n aB0 aB1 aB2 aB3 aB4 aB5 (by omega) (by omega)) gX2_addVariant_X2_needFreePage rfl 0 2 (by decide +kernel) rfl dX2_addVariant_19 [0, 1] 0 [] [] rfl rfl rfl ⟨by decide, by decide⟩ ⟨by decide, by decide⟩ rfl rfl rfl rfl rfl (Nat.le_of_ble_eq_true rfl) rfl rfl rfl rfl ?_
  refine z_aload_n K 0 dX2_addVariant_22 rfl ?_
  refine z_get (C := RX2) (T := TX2) (N := 4) (ci := 2) K iX2 rfl 0 rfl 0 (by decide) (by decide +kernel) rfl rfl dX2_addVariant_23 ?_
  refine z_get (C := RX0) (T := TX0) (N := 7) (ci := 0) K iX0 rfl 1 rfl 2 (by decide) (by decide +kernel) rfl rfl dX2_addVariant_26 ?_
  refine z_iload_n K 1 dX2_addVariant_29 rfl ?_
  refine z_ialdN K 3 0 f (by omega) (by omega) rfl rfl dX2_addVariant_30 ?_
  refine z_istore (lv' := [(5, .int (fb f)), (0, .ref aX), (1, .int (nI f)), (2, .int (nI x)), (3, .int (nI y)), (4, .int (nI v))]) K dX2_addVariant_31 (by decide) rfl ?_
  refine z_iload K 0 dX2_addVariant_33 rfl ?_
  refine z_iload_n K 3 dX2_addVariant_35 rfl ?_
  refine z_callS (ws' := [(aX, .inr (2, [.ref aB, .ref aL, .ref aT, .int se])), (aB, .inr (0, [.int (nI n), .ref aB0, .ref aB1, .ref aB2, .ref aB3, .ref aB4, .ref aB5])), (aB0, .inl (cI, 20, .inl fm)), (aB1, .inl (cI, 20, .inl fb)), (aB2, .inl (cI, 20, .inl fh)), (aB3, .inl (cI, 20, .inl fp)), (aB4, .inl (cI, 20, .inl fv)), (aB5, .inl (cI, 20, .inl fa))]) (st' := [.int (z_b (hs (fb f) (nI x)))]) (rest := []) K (m_X2_has l _ D cI cZ cQ cW (fb f) (nI x) ) gX2_addVariant_X2_has rfl 2 (by decide +kernel) dX2_addVariant_36 [] [] [] rfl rfl rfl ⟨by decide, by decide⟩ ⟨by decide, by decide⟩ rfl rfl rfl rfl (Nat.le_of_ble_eq_true rfl) rfl rfl rfl rfl ?_
  refine z_if_neB K 52 dX2_addVariant_39 (by decide) (fun c39 => ?_) (fun c39 => ?_)
  · refine z_iload K 0 dX2_addVariant_52 rfl ?_
    refine z_iload_n K 4 dX2_addVariant_54 rfl ?_
    refine z_callS (ws' := [(aX, .inr (2, [.ref aB, .ref aL, .ref aT, .int se])), (aB, .inr (0, [.int (nI n), .ref aB0, .ref aB1, .ref aB2, .ref aB3, .ref aB4, .ref aB5])), (aB0, .inl (cI, 20, .inl fm)), (aB1, .inl (cI, 20, .inl fb)), (aB2, .inl (cI, 20, .inl fh)), (aB3, .inl (cI, 20, .inl fp)), (aB4, .inl (cI, 20, .inl fv)), (aB5, .inl (cI, 20, .inl fa))]) (st' := [.int (z_b (hs (fb f) (nI y)))]) (rest := []) K (m_X2_has l _ D cI cZ cQ cW (fb f) (nI y) ) gX2_addVariant_X2_has rfl 2 (by decide +kernel) dX2_addVariant_55 [] [] [] rfl rfl rfl ⟨by decide, by decide⟩ ⟨by decide, by decide⟩ rfl rfl rfl rfl (Nat.le_of_ble_eq_true rfl) rfl rfl rfl rfl ?_
    refine z_if_eqB K 71 dX2_addVariant_58 (by decide) (fun c58 => ?_) (fun c58 => ?_)
    · refine z_aload_n K 1 dX2_addVariant_71 rfl ?_
      refine z_get (C := RX2) (T := TX2) (N := 4) (ci := 2) K iX2 rfl 0 rfl 0 (by decide) (by decide +kernel) rfl rfl dX2_addVariant_72 ?_
      refine z_aload_n K 1 dX2_addVariant_75 rfl ?_
      refine z_get (C := RX2) (T := TX2) (N := 4) (ci := 2) K iX2 rfl 0 rfl 0 (by decide) (by decide +kernel) rfl rfl dX2_addVariant_76 ?_
      refine z_get (C := RX0) (T := TX0) (N := 7) (ci := 0) K iX0 rfl 1 rfl 1 (by decide) (by decide +kernel) rfl rfl dX2_addVariant_79 ?_
      refine z_iload_n K 2 dX2_addVariant_82 rfl ?_
      refine z_ialdN K 2 0 f (by omega) (by omega) rfl rfl dX2_addVariant_83 ?_
      refine z_iload K 0 dX2_addVariant_84 rfl ?_
      refine z_iload_n K 3 dX2_addVariant_86 rfl ?_
      refine z_callS (ws' := [(aX, .inr (2, [.ref aB, .ref aL, .ref aT, .int se])), (aB, .inr (0, [.int (nI n), .ref aB0, .ref aB1, .ref aB2, .ref aB3, .ref aB4, .ref aB5])), (aB0, .inl (cI, 20, .inl fm)), (aB1, .inl (cI, 20, .inl fb)), (aB2, .inl (cI, 20, .inl fh)), (aB3, .inl (cI, 20, .inl fp)), (aB4, .inl (cI, 20, .inl fv)), (aB5, .inl (cI, 20, .inl fa))]) (st' := [.int (tu (fb f) (nI x)), .int (fm f), .ref aB]) (rest := [.int (fm f), .ref aB]) K (m_X2_turned l _ D cI cZ cQ cW (fb f) (nI x) ) gX2_addVariant_X2_turned rfl 2 (by decide +kernel) dX2_addVariant_87 [] [] [] rfl rfl rfl ⟨by decide, by decide⟩ ⟨by decide, by decide⟩ rfl rfl rfl rfl (Nat.le_of_ble_eq_true rfl) rfl rfl rfl rfl ?_
      refine z_iload_n K 4 dX2_addVariant_90 rfl ?_
      refine z_callS (ws' := [(aX, .inr (2, [.ref aB, .ref aL, .ref aT, .int se])), (aB, .inr (0, [.int (nI n), .ref aB0, .ref aB1, .ref aB2, .ref aB3, .ref aB4, .ref aB5])), (aB0, .inl (cI, 20, .inl fm)), (aB1, .inl (cI, 20, .inl fb)), (aB2, .inl (cI, 20, .inl fh)), (aB3, .inl (cI, 20, .inl fp)), (aB4, .inl (cI, 20, .inl fv)), (aB5, .inl (cI, 20, .inl fa))]) (st' := [.int (tu (tu (fb f) (nI x)) (nI y)), .int (fm f), .ref aB]) (rest := [.int (fm f), .ref aB]) K (m_X2_turned l _ D cI cZ cQ cW (tu (fb f) (nI x)) (nI y) ) gX2_addVariant_X2_turned rfl 2 (by decide +kernel) dX2_addVariant_91 [] [] [] rfl rfl rfl ⟨by decide, by decide⟩ ⟨by decide, by decide⟩ rfl rfl rfl rfl (Nat.le_of_ble_eq_true rfl) rfl rfl rfl rfl ?_
      refine z_iload K 5 dX2_addVariant_94 rfl ?_
      refine z_iload_n K 2 dX2_addVariant_96 rfl ?_
      refine z_callV (ws' := [(aX, .inr (2, [.ref aB, .ref aL, .ref aT, .int se])), (aB, .inr (0, [.int (nI (n + 1)), .ref aB0, .ref aB1, .ref aB2, .ref aB3, .ref aB4, .ref aB5])), (aB0, .inl (cI, 20, .inl (upd fm n (fm f)))), (aB1, .inl (cI, 20, .inl (upd fb n (tu (tu (fb f) (nI x)) (nI y))))), (aB2, .inl (cI, 20, .inl (upd fh n (nI v)))), (aB3, .inl (cI, 20, .inl (upd fp n (nI f)))), (aB4, .inl (cI, 20, .inl (wrV fv n (nI f)))), (aB5, .inl (cI, 20, .inl (wrA fa n (nI f))))]) (st' := [.int (nI n)]) (rest := []) (C := RX0) (T := TX0) (N := 7) K (m_X0_write l _ D cI cZ cQ cW aB (fm f) (tu (tu (fb f) (nI x)) (nI y)) (nI v) (nI f) n aB0 aB1 aB2 aB3 aB4 aB5 fm fb fh fp fv fa (by omega) (Or.inr ⟨f, hf, rfl⟩)) gX2_addVariant_X0_write rfl 4 0 (by decide +kernel) rfl dX2_addVariant_97 [1, 2, 3, 4, 5, 6, 7] 1 [1, 2, 3, 4, 5, 6, 7] [0, 1, 2, 3, 4, 5, 6] rfl rfl rfl ⟨by decide, by decide⟩ ⟨by decide, by decide⟩ rfl rfl rfl rfl rfl (Nat.le_of_ble_eq_true rfl) rfl rfl rfl rfl ?_
      exact z_iret K dX2_addVariant_100 (rfl) [1, 2, 3, 4, 5, 6, 7] rfl (by decide) (by decide)
    · first | exact absurd (hcy.symm.trans c58) (by decide) | exact absurd (hgx.symm.trans c58) (by decide)
  · first | exact absurd (hcy.symm.trans c39) (by decide) | exact absurd (hgx.symm.trans c39) (by decide)

set_option maxRecDepth 100000 in
set_option maxHeartbeats 4000000 in
theorem m_X2_turnPass (l : Launch) (G : Nat → Prop) (D : va_G) (cI cZ cQ cW : ClassId) (aX : Nat) (i : Nat) (j : Nat) (aB : Nat) (aL : Nat) (aT : Nat) (se : Int32) (aL0 : Nat) (aL1 : Nat) (aL2 : Nat) (aL3 : Nat) (aL4 : Nat) (aL5 : Nat) (hu : Int32) (lw : Nat → Int32) (hi : i < 6) (hj : j < 6) (hij : i ≠ j) : z_M l yX2_turnPass wsX2_turnPass { frames := 2, cells := 0, slots := 0, locals := 43 } G D [(cI, .int), (cZ, .boolean), (cQ, .array .int), (cW, .array .boolean)] [.ref aX, .int (nI i), .int (nI j)] ([(aX, .inr (2, [.ref aB, .ref aL, .ref aT, .int se])), (aL, .inr (1, [.ref aL0, .ref aL1, .ref aL2, .ref aL3, .ref aL4, .ref aL5, .int hu])), (aL0, .inl (cI, 6, .inl lw))]) (some (.int (z_b (hs (turnW lw i j i) (nI j))))) [(aL0, .inl (cI, 6, .inl (turnW lw i j)))] 0 0 := by
  have iX2 : ∀ w ∈ u_ws RX2 TX2 4, w ∈ wsX2_turnPass := fun w h => List.mem_cons_of_mem _ (List.mem_append_left _ (List.mem_append_left _ (List.mem_append_left _ (List.mem_append_right _ h))))
  have iX1 : ∀ w ∈ u_ws RX1 TX1 7, w ∈ wsX2_turnPass := fun w h => List.mem_cons_of_mem _ (List.mem_append_left _ (List.mem_append_left _ (List.mem_append_right _ h)))
  refine z_ofW (cc := cX2_turnPass) (nL := 3) (ret := (some .boolean)) (by decide) rfl (Nat.le_of_ble_eq_true rfl) [2] rfl (lv0 := [(0, .ref aX), (1, .int (nI i)), (2, .int (nI j))]) rfl ?_
  intro p e s m args below meth c K
  refine z_iload_n K 1 dX2_turnPass_0 rfl ?_
  refine z_callS (ws' := [(aX, .inr (2, [.ref aB, .ref aL, .ref aT, .int se])), (aL, .inr (1, [.ref aL0, .ref aL1, .ref aL2, .ref aL3, .ref aL4, .ref aL5, .int hu])), (aL0, .inl (cI, 6, .inl lw))]) (st' := []) (rest := []) K (m_X2_needValley l _ D cI cZ cQ cW i (by omega)) gX2_turnPass_X2_needValley rfl 1 (by decide +kernel) dX2_turnPass_1 [] [] [] rfl rfl rfl ⟨by decide, by decide⟩ ⟨by decide, by decide⟩ rfl rfl rfl rfl (Nat.le_of_ble_eq_true rfl) rfl rfl rfl rfl ?_
  refine z_iload_n K 2 dX2_turnPass_4 rfl ?_
  refine z_callS (ws' := [(aX, .inr (2, [.ref aB, .ref aL, .ref aT, .int se])), (aL, .inr (1, [.ref aL0, .ref aL1, .ref aL2, .ref aL3, .ref aL4, .ref aL5, .int hu])), (aL0, .inl (cI, 6, .inl lw))]) (st' := []) (rest := []) K (m_X2_needValley l _ D cI cZ cQ cW j (by omega)) gX2_turnPass_X2_needValley rfl 1 (by decide +kernel) dX2_turnPass_5 [] [] [] rfl rfl rfl ⟨by decide, by decide⟩ ⟨by decide, by decide⟩ rfl rfl rfl rfl (Nat.le_of_ble_eq_true rfl) rfl rfl rfl rfl ?_
  refine z_iload_n K 1 dX2_turnPass_8 rfl ?_
  refine z_iload_n K 2 dX2_turnPass_9 rfl ?_
  refine z_icmp_ne K 23 dX2_turnPass_10 (by decide) (fun c10 => ?_) (fun c10 => ?_)
  · refine z_aload_n K 0 dX2_turnPass_23 rfl ?_
    refine z_get (C := RX2) (T := TX2) (N := 4) (ci := 2) K iX2 rfl 0 rfl 1 (by decide) (by decide +kernel) rfl rfl dX2_turnPass_24 ?_
    refine z_iload_n K 1 dX2_turnPass_27 rfl ?_
    refine z_iload_n K 2 dX2_turnPass_28 rfl ?_
    refine z_callV (ws' := [(aX, .inr (2, [.ref aB, .ref aL, .ref aT, .int se])), (aL, .inr (1, [.ref aL0, .ref aL1, .ref aL2, .ref aL3, .ref aL4, .ref aL5, .int hu])), (aL0, .inl (cI, 6, .inl (turnW lw i j)))]) (st' := []) (rest := []) (C := RX1) (T := TX1) (N := 7) K (m_X1_turnWay l _ D cI cZ cQ cW aL i j aL0 aL1 aL2 aL3 aL4 aL5 hu lw (by omega) (by omega)) gX2_turnPass_X1_turnWay rfl 2 1 (by decide +kernel) rfl dX2_turnPass_29 [1, 2] 1 [2] [0] rfl rfl rfl ⟨by decide, by decide⟩ ⟨by decide, by decide⟩ rfl rfl rfl rfl rfl (Nat.le_of_ble_eq_true rfl) rfl rfl rfl rfl ?_
    refine z_aload_n K 0 dX2_turnPass_32 rfl ?_
    refine z_get (C := RX2) (T := TX2) (N := 4) (ci := 2) K iX2 rfl 0 rfl 1 (by decide) (by decide +kernel) rfl rfl dX2_turnPass_33 ?_
    refine z_get (C := RX1) (T := TX1) (N := 7) (ci := 1) K iX1 rfl 1 rfl 0 (by decide) (by decide +kernel) rfl rfl dX2_turnPass_36 ?_
    refine z_iload_n K 1 dX2_turnPass_39 rfl ?_
    refine z_ialdN K 2 0 i (by omega) (by omega) rfl rfl dX2_turnPass_40 ?_
    refine z_iload_n K 2 dX2_turnPass_41 rfl ?_
    refine z_callS (ws' := [(aX, .inr (2, [.ref aB, .ref aL, .ref aT, .int se])), (aL, .inr (1, [.ref aL0, .ref aL1, .ref aL2, .ref aL3, .ref aL4, .ref aL5, .int hu])), (aL0, .inl (cI, 6, .inl (turnW lw i j)))]) (st' := [.int (z_b (hs ((turnW lw i j) i) (nI j)))]) (rest := []) K (m_X2_has l _ D cI cZ cQ cW ((turnW lw i j) i) (nI j) ) gX2_turnPass_X2_has rfl 2 (by decide +kernel) dX2_turnPass_42 [] [] [] rfl rfl rfl ⟨by decide, by decide⟩ ⟨by decide, by decide⟩ rfl rfl rfl rfl (Nat.le_of_ble_eq_true rfl) rfl rfl rfl rfl ?_
    exact z_zret K dX2_turnPass_45 ((by first | (simp only [c10, Bool.false_eq_true, if_false, if_true, ↓reduceIte]; done) | rfl | simp [c10])) [2] rfl (by decide) (by decide)
  · first | exact absurd ((nI_eq (by omega) (by omega)).mp c10) hij

set_option maxRecDepth 100000 in
set_option maxHeartbeats 4000000 in
theorem m_X2_turnMoral (l : Launch) (G : Nat → Prop) (D : va_G) (cI cZ cQ cW : ClassId) (aX : Nat) (v : Nat) (mo : Nat) (aB : Nat) (aL : Nat) (aT : Nat) (se : Int32) (aL0 : Nat) (aL1 : Nat) (aL2 : Nat) (aL3 : Nat) (aL4 : Nat) (aL5 : Nat) (hu : Int32) (lm : Nat → Int32) (hv : v < 6) (hm : mo < 10) : z_M l yX2_turnMoral wsX2_turnMoral { frames := 1, cells := 0, slots := 0, locals := 21 } G D [(cI, .int), (cZ, .boolean), (cQ, .array .int), (cW, .array .boolean)] [.ref aX, .int (nI v), .int (nI mo)] ([(aX, .inr (2, [.ref aB, .ref aL, .ref aT, .int se])), (aL, .inr (1, [.ref aL0, .ref aL1, .ref aL2, .ref aL3, .ref aL4, .ref aL5, .int hu])), (aL1, .inl (cI, 6, .inl lm))]) (some (.int (z_b (hs (tu (lm v) (nI mo)) (nI mo))))) [(aL1, .inl (cI, 6, .inl (upd lm v (tu (lm v) (nI mo)))))] 0 0 := by
  have iX2 : ∀ w ∈ u_ws RX2 TX2 4, w ∈ wsX2_turnMoral := fun w h => List.mem_cons_of_mem _ (List.mem_append_left _ (List.mem_append_left _ (List.mem_append_right _ h)))
  have iX1 : ∀ w ∈ u_ws RX1 TX1 7, w ∈ wsX2_turnMoral := fun w h => List.mem_cons_of_mem _ (List.mem_append_left _ (List.mem_append_right _ h))
  refine z_ofW (cc := cX2_turnMoral) (nL := 3) (ret := (some .boolean)) (by decide) rfl (Nat.le_of_ble_eq_true rfl) [2] rfl (lv0 := [(0, .ref aX), (1, .int (nI v)), (2, .int (nI mo))]) rfl ?_
  intro p e s m args below meth c K
  refine z_iload_n K 1 dX2_turnMoral_0 rfl ?_
  refine z_callS (ws' := [(aX, .inr (2, [.ref aB, .ref aL, .ref aT, .int se])), (aL, .inr (1, [.ref aL0, .ref aL1, .ref aL2, .ref aL3, .ref aL4, .ref aL5, .int hu])), (aL1, .inl (cI, 6, .inl lm))]) (st' := []) (rest := []) K (m_X2_needValley l _ D cI cZ cQ cW v (by omega)) gX2_turnMoral_X2_needValley rfl 1 (by decide +kernel) dX2_turnMoral_1 [] [] [] rfl rfl rfl ⟨by decide, by decide⟩ ⟨by decide, by decide⟩ rfl rfl rfl rfl (Nat.le_of_ble_eq_true rfl) rfl rfl rfl rfl ?_
  refine z_iload_n K 2 dX2_turnMoral_4 rfl ?_
  refine z_callS (ws' := [(aX, .inr (2, [.ref aB, .ref aL, .ref aT, .int se])), (aL, .inr (1, [.ref aL0, .ref aL1, .ref aL2, .ref aL3, .ref aL4, .ref aL5, .int hu])), (aL1, .inl (cI, 6, .inl lm))]) (st' := []) (rest := []) K (m_X2_needMoral l _ D cI cZ cQ cW mo (by omega)) gX2_turnMoral_X2_needMoral rfl 1 (by decide +kernel) dX2_turnMoral_5 [] [] [] rfl rfl rfl ⟨by decide, by decide⟩ ⟨by decide, by decide⟩ rfl rfl rfl rfl (Nat.le_of_ble_eq_true rfl) rfl rfl rfl rfl ?_
  refine z_aload_n K 0 dX2_turnMoral_8 rfl ?_
  refine z_get (C := RX2) (T := TX2) (N := 4) (ci := 2) K iX2 rfl 0 rfl 1 (by decide) (by decide +kernel) rfl rfl dX2_turnMoral_9 ?_
  refine z_get (C := RX1) (T := TX1) (N := 7) (ci := 1) K iX1 rfl 1 rfl 1 (by decide) (by decide +kernel) rfl rfl dX2_turnMoral_12 ?_
  refine z_iload_n K 1 dX2_turnMoral_15 rfl ?_
  refine z_aload_n K 0 dX2_turnMoral_16 rfl ?_
  refine z_get (C := RX2) (T := TX2) (N := 4) (ci := 2) K iX2 rfl 0 rfl 1 (by decide) (by decide +kernel) rfl rfl dX2_turnMoral_17 ?_
  refine z_get (C := RX1) (T := TX1) (N := 7) (ci := 1) K iX1 rfl 1 rfl 1 (by decide) (by decide +kernel) rfl rfl dX2_turnMoral_20 ?_
  refine z_iload_n K 1 dX2_turnMoral_23 rfl ?_
  refine z_ialdN K 2 0 v (by omega) (by omega) rfl rfl dX2_turnMoral_24 ?_
  refine z_iload_n K 2 dX2_turnMoral_25 rfl ?_
  refine z_callS (ws' := [(aX, .inr (2, [.ref aB, .ref aL, .ref aT, .int se])), (aL, .inr (1, [.ref aL0, .ref aL1, .ref aL2, .ref aL3, .ref aL4, .ref aL5, .int hu])), (aL1, .inl (cI, 6, .inl lm))]) (st' := [.int (tu (lm v) (nI mo)), .int (nI v), .ref aL1]) (rest := [.int (nI v), .ref aL1]) K (m_X2_turned l _ D cI cZ cQ cW (lm v) (nI mo) ) gX2_turnMoral_X2_turned rfl 2 (by decide +kernel) dX2_turnMoral_26 [] [] [] rfl rfl rfl ⟨by decide, by decide⟩ ⟨by decide, by decide⟩ rfl rfl rfl rfl (Nat.le_of_ble_eq_true rfl) rfl rfl rfl rfl ?_
  refine z_iastN K 2 0 v (by omega) (by omega) rfl rfl dX2_turnMoral_29 (z_memA 0 rfl) (ws' := [(aX, .inr (2, [.ref aB, .ref aL, .ref aT, .int se])), (aL, .inr (1, [.ref aL0, .ref aL1, .ref aL2, .ref aL3, .ref aL4, .ref aL5, .int hu])), (aL1, .inl (cI, 6, .inl (upd lm v (tu (lm v) (nI mo)))))]) rfl ?_
  refine z_aload_n K 0 dX2_turnMoral_30 rfl ?_
  refine z_get (C := RX2) (T := TX2) (N := 4) (ci := 2) K iX2 rfl 0 rfl 1 (by decide) (by decide +kernel) rfl rfl dX2_turnMoral_31 ?_
  refine z_get (C := RX1) (T := TX1) (N := 7) (ci := 1) K iX1 rfl 1 rfl 1 (by decide) (by decide +kernel) rfl rfl dX2_turnMoral_34 ?_
  refine z_iload_n K 1 dX2_turnMoral_37 rfl ?_
  refine z_ialdN K 2 0 v (by omega) (by omega) rfl rfl dX2_turnMoral_38 ?_
  refine z_iload_n K 2 dX2_turnMoral_39 rfl ?_
  refine z_callS (ws' := [(aX, .inr (2, [.ref aB, .ref aL, .ref aT, .int se])), (aL, .inr (1, [.ref aL0, .ref aL1, .ref aL2, .ref aL3, .ref aL4, .ref aL5, .int hu])), (aL1, .inl (cI, 6, .inl (upd lm v (tu (lm v) (nI mo)))))]) (st' := [.int (z_b (hs ((upd lm v (tu (lm v) (nI mo))) v) (nI mo)))]) (rest := []) K (m_X2_has l _ D cI cZ cQ cW ((upd lm v (tu (lm v) (nI mo))) v) (nI mo) ) gX2_turnMoral_X2_has rfl 2 (by decide +kernel) dX2_turnMoral_40 [] [] [] rfl rfl rfl ⟨by decide, by decide⟩ ⟨by decide, by decide⟩ rfl rfl rfl rfl (Nat.le_of_ble_eq_true rfl) rfl rfl rfl rfl ?_
  exact z_zret K dX2_turnMoral_43 ((by first | (simp only [upd, Bool.false_eq_true, if_false, if_true, ↓reduceIte]; done) | rfl | simp [upd])) [2] rfl (by decide) (by decide)

set_option maxRecDepth 100000 in
set_option maxHeartbeats 4000000 in
theorem m_X2_turnBeast (l : Launch) (G : Nat → Prop) (D : va_G) (cI cZ cQ cW : ClassId) (aX : Nat) (v : Nat) (b : Nat) (aB : Nat) (aL : Nat) (aT : Nat) (se : Int32) (aL0 : Nat) (aL1 : Nat) (aL2 : Nat) (aL3 : Nat) (aL4 : Nat) (aL5 : Nat) (hu : Int32) (lb : Nat → Int32) (hv : v < 6) (hb : b < 12) : z_M l yX2_turnBeast wsX2_turnBeast { frames := 1, cells := 0, slots := 0, locals := 21 } G D [(cI, .int), (cZ, .boolean), (cQ, .array .int), (cW, .array .boolean)] [.ref aX, .int (nI v), .int (nI b)] ([(aX, .inr (2, [.ref aB, .ref aL, .ref aT, .int se])), (aL, .inr (1, [.ref aL0, .ref aL1, .ref aL2, .ref aL3, .ref aL4, .ref aL5, .int hu])), (aL2, .inl (cI, 6, .inl lb))]) (some (.int (z_b (hs (tu (lb v) (nI b)) (nI b))))) [(aL2, .inl (cI, 6, .inl (upd lb v (tu (lb v) (nI b)))))] 0 0 := by
  have iX2 : ∀ w ∈ u_ws RX2 TX2 4, w ∈ wsX2_turnBeast := fun w h => List.mem_cons_of_mem _ (List.mem_append_left _ (List.mem_append_left _ (List.mem_append_right _ h)))
  have iX1 : ∀ w ∈ u_ws RX1 TX1 7, w ∈ wsX2_turnBeast := fun w h => List.mem_cons_of_mem _ (List.mem_append_left _ (List.mem_append_right _ h))
  refine z_ofW (cc := cX2_turnBeast) (nL := 3) (ret := (some .boolean)) (by decide) rfl (Nat.le_of_ble_eq_true rfl) [2] rfl (lv0 := [(0, .ref aX), (1, .int (nI v)), (2, .int (nI b))]) rfl ?_
  intro p e s m args below meth c K
  refine z_iload_n K 1 dX2_turnBeast_0 rfl ?_
  refine z_callS (ws' := [(aX, .inr (2, [.ref aB, .ref aL, .ref aT, .int se])), (aL, .inr (1, [.ref aL0, .ref aL1, .ref aL2, .ref aL3, .ref aL4, .ref aL5, .int hu])), (aL2, .inl (cI, 6, .inl lb))]) (st' := []) (rest := []) K (m_X2_needValley l _ D cI cZ cQ cW v (by omega)) gX2_turnBeast_X2_needValley rfl 1 (by decide +kernel) dX2_turnBeast_1 [] [] [] rfl rfl rfl ⟨by decide, by decide⟩ ⟨by decide, by decide⟩ rfl rfl rfl rfl (Nat.le_of_ble_eq_true rfl) rfl rfl rfl rfl ?_
  refine z_iload_n K 2 dX2_turnBeast_4 rfl ?_
  refine z_callS (ws' := [(aX, .inr (2, [.ref aB, .ref aL, .ref aT, .int se])), (aL, .inr (1, [.ref aL0, .ref aL1, .ref aL2, .ref aL3, .ref aL4, .ref aL5, .int hu])), (aL2, .inl (cI, 6, .inl lb))]) (st' := []) (rest := []) K (m_X2_needBeast l _ D cI cZ cQ cW b (by omega)) gX2_turnBeast_X2_needBeast rfl 1 (by decide +kernel) dX2_turnBeast_5 [] [] [] rfl rfl rfl ⟨by decide, by decide⟩ ⟨by decide, by decide⟩ rfl rfl rfl rfl (Nat.le_of_ble_eq_true rfl) rfl rfl rfl rfl ?_
  refine z_aload_n K 0 dX2_turnBeast_8 rfl ?_
  refine z_get (C := RX2) (T := TX2) (N := 4) (ci := 2) K iX2 rfl 0 rfl 1 (by decide) (by decide +kernel) rfl rfl dX2_turnBeast_9 ?_
  refine z_get (C := RX1) (T := TX1) (N := 7) (ci := 1) K iX1 rfl 1 rfl 2 (by decide) (by decide +kernel) rfl rfl dX2_turnBeast_12 ?_
  refine z_iload_n K 1 dX2_turnBeast_15 rfl ?_
  refine z_aload_n K 0 dX2_turnBeast_16 rfl ?_
  refine z_get (C := RX2) (T := TX2) (N := 4) (ci := 2) K iX2 rfl 0 rfl 1 (by decide) (by decide +kernel) rfl rfl dX2_turnBeast_17 ?_
  refine z_get (C := RX1) (T := TX1) (N := 7) (ci := 1) K iX1 rfl 1 rfl 2 (by decide) (by decide +kernel) rfl rfl dX2_turnBeast_20 ?_
  refine z_iload_n K 1 dX2_turnBeast_23 rfl ?_
  refine z_ialdN K 2 0 v (by omega) (by omega) rfl rfl dX2_turnBeast_24 ?_
  refine z_iload_n K 2 dX2_turnBeast_25 rfl ?_
  refine z_callS (ws' := [(aX, .inr (2, [.ref aB, .ref aL, .ref aT, .int se])), (aL, .inr (1, [.ref aL0, .ref aL1, .ref aL2, .ref aL3, .ref aL4, .ref aL5, .int hu])), (aL2, .inl (cI, 6, .inl lb))]) (st' := [.int (tu (lb v) (nI b)), .int (nI v), .ref aL2]) (rest := [.int (nI v), .ref aL2]) K (m_X2_turned l _ D cI cZ cQ cW (lb v) (nI b) ) gX2_turnBeast_X2_turned rfl 2 (by decide +kernel) dX2_turnBeast_26 [] [] [] rfl rfl rfl ⟨by decide, by decide⟩ ⟨by decide, by decide⟩ rfl rfl rfl rfl (Nat.le_of_ble_eq_true rfl) rfl rfl rfl rfl ?_
  refine z_iastN K 2 0 v (by omega) (by omega) rfl rfl dX2_turnBeast_29 (z_memA 0 rfl) (ws' := [(aX, .inr (2, [.ref aB, .ref aL, .ref aT, .int se])), (aL, .inr (1, [.ref aL0, .ref aL1, .ref aL2, .ref aL3, .ref aL4, .ref aL5, .int hu])), (aL2, .inl (cI, 6, .inl (upd lb v (tu (lb v) (nI b)))))]) rfl ?_
  refine z_aload_n K 0 dX2_turnBeast_30 rfl ?_
  refine z_get (C := RX2) (T := TX2) (N := 4) (ci := 2) K iX2 rfl 0 rfl 1 (by decide) (by decide +kernel) rfl rfl dX2_turnBeast_31 ?_
  refine z_get (C := RX1) (T := TX1) (N := 7) (ci := 1) K iX1 rfl 1 rfl 2 (by decide) (by decide +kernel) rfl rfl dX2_turnBeast_34 ?_
  refine z_iload_n K 1 dX2_turnBeast_37 rfl ?_
  refine z_ialdN K 2 0 v (by omega) (by omega) rfl rfl dX2_turnBeast_38 ?_
  refine z_iload_n K 2 dX2_turnBeast_39 rfl ?_
  refine z_callS (ws' := [(aX, .inr (2, [.ref aB, .ref aL, .ref aT, .int se])), (aL, .inr (1, [.ref aL0, .ref aL1, .ref aL2, .ref aL3, .ref aL4, .ref aL5, .int hu])), (aL2, .inl (cI, 6, .inl (upd lb v (tu (lb v) (nI b)))))]) (st' := [.int (z_b (hs ((upd lb v (tu (lb v) (nI b))) v) (nI b)))]) (rest := []) K (m_X2_has l _ D cI cZ cQ cW ((upd lb v (tu (lb v) (nI b))) v) (nI b) ) gX2_turnBeast_X2_has rfl 2 (by decide +kernel) dX2_turnBeast_40 [] [] [] rfl rfl rfl ⟨by decide, by decide⟩ ⟨by decide, by decide⟩ rfl rfl rfl rfl (Nat.le_of_ble_eq_true rfl) rfl rfl rfl rfl ?_
  exact z_zret K dX2_turnBeast_43 ((by first | (simp only [upd, Bool.false_eq_true, if_false, if_true, ↓reduceIte]; done) | rfl | simp [upd])) [2] rfl (by decide) (by decide)

set_option maxRecDepth 100000 in
set_option maxHeartbeats 4000000 in
theorem m_X2_tell (l : Launch) (G : Nat → Prop) (D : va_G) (cI cZ cQ cW : ClassId) (aX : Nat) (f : Nat) (v : Nat) (aB : Nat) (aL : Nat) (aT : Nat) (se : Int32) (n : Nat) (aB0 : Nat) (aB1 : Nat) (aB2 : Nat) (aB3 : Nat) (aB4 : Nat) (aB5 : Nat) (fm : Nat → Int32) (fb : Nat → Int32) (aL0 : Nat) (aL1 : Nat) (aL2 : Nat) (aL3 : Nat) (aL4 : Nat) (aL5 : Nat) (hu : Int32) (lm : Nat → Int32) (lb : Nat → Int32) (lt : Nat → Int32) (hn : n ≤ 20) (hf : f < n) (hv : v < 6) (hnt : hs (lt v) (nI f) = false) (hnb : ban lm lb fm fb f v = false) : z_M l yX2_tell wsX2_tell { frames := 3, cells := 0, slots := 0, locals := 63 } G D [(cI, .int), (cZ, .boolean), (cQ, .array .int), (cW, .array .boolean)] [.ref aX, .int (nI f), .int (nI v)] ([(aX, .inr (2, [.ref aB, .ref aL, .ref aT, .int se])), (aB, .inr (0, [.int (nI n), .ref aB0, .ref aB1, .ref aB2, .ref aB3, .ref aB4, .ref aB5])), (aB0, .inl (cI, 20, .inl fm)), (aB1, .inl (cI, 20, .inl fb)), (aL, .inr (1, [.ref aL0, .ref aL1, .ref aL2, .ref aL3, .ref aL4, .ref aL5, .int hu])), (aL1, .inl (cI, 6, .inl lm)), (aL2, .inl (cI, 6, .inl lb)), (aL3, .inl (cI, 6, .inl lt))]) (some (.int (cntS (upd lt v (lt v ||| ((1 : Int32) <<< (nI f &&& 31)))) ((1 : Int32) <<< (nI f &&& 31)) 6))) [(aL3, .inl (cI, 6, .inl (upd lt v (lt v ||| ((1 : Int32) <<< (nI f &&& 31))))))] 0 0 := by
  have iX2 : ∀ w ∈ u_ws RX2 TX2 4, w ∈ wsX2_tell := fun w h => List.mem_cons_of_mem _ (List.mem_append_left _ (List.mem_append_left _ (List.mem_append_left _ (List.mem_append_left _ (List.mem_append_right _ h)))))
  have iX1 : ∀ w ∈ u_ws RX1 TX1 7, w ∈ wsX2_tell := fun w h => List.mem_cons_of_mem _ (List.mem_append_left _ (List.mem_append_left _ (List.mem_append_left _ (List.mem_append_right _ h))))
  have iX0 : ∀ w ∈ u_ws RX0 TX0 7, w ∈ wsX2_tell := fun w h => List.mem_cons_of_mem _ (List.mem_append_left _ (List.mem_append_left _ (List.mem_append_right _ h)))
  refine z_ofW (cc := cX2_tell) (nL := 3) (ret := (some .int)) (by decide) rfl (Nat.le_of_ble_eq_true rfl) [7] rfl (lv0 := [(0, .ref aX), (1, .int (nI f)), (2, .int (nI v))]) rfl ?_
  intro p e s m args below meth c K
  refine z_aload_n K 0 dX2_tell_0 rfl ?_
  refine z_iload_n K 1 dX2_tell_1 rfl ?_
  refine z_callV (ws' := [(aX, .inr (2, [.ref aB, .ref aL, .ref aT, .int se])), (aB, .inr (0, [.int (nI n), .ref aB0, .ref aB1, .ref aB2, .ref aB3, .ref aB4, .ref aB5])), (aB0, .inl (cI, 20, .inl fm)), (aB1, .inl (cI, 20, .inl fb)), (aL, .inr (1, [.ref aL0, .ref aL1, .ref aL2, .ref aL3, .ref aL4, .ref aL5, .int hu])), (aL1, .inl (cI, 6, .inl lm)), (aL2, .inl (cI, 6, .inl lb)), (aL3, .inl (cI, 6, .inl lt))]) (st' := []) (rest := []) (C := RX2) (T := TX2) (N := 4) K (m_X2_needFable l _ D cI cZ cQ cW aX f aB aL aT se n aB0 aB1 aB2 aB3 aB4 aB5 (by omega) (by omega)) gX2_tell_X2_needFable rfl 1 2 (by decide +kernel) rfl dX2_tell_2 [0, 1] 0 [] [] rfl rfl rfl ⟨by decide, by decide⟩ ⟨by decide, by decide⟩ rfl rfl rfl rfl rfl (Nat.le_of_ble_eq_true rfl) rfl rfl rfl rfl ?_
  refine z_iload_n K 2 dX2_tell_5 rfl ?_
  refine z_callS (ws' := [(aX, .inr (2, [.ref aB, .ref aL, .ref aT, .int se])), (aB, .inr (0, [.int (nI n), .ref aB0, .ref aB1, .ref aB2, .ref aB3, .ref aB4, .ref aB5])), (aB0, .inl (cI, 20, .inl fm)), (aB1, .inl (cI, 20, .inl fb)), (aL, .inr (1, [.ref aL0, .ref aL1, .ref aL2, .ref aL3, .ref aL4, .ref aL5, .int hu])), (aL1, .inl (cI, 6, .inl lm)), (aL2, .inl (cI, 6, .inl lb)), (aL3, .inl (cI, 6, .inl lt))]) (st' := []) (rest := []) K (m_X2_needValley l _ D cI cZ cQ cW v (by omega)) gX2_tell_X2_needValley rfl 1 (by decide +kernel) dX2_tell_6 [] [] [] rfl rfl rfl ⟨by decide, by decide⟩ ⟨by decide, by decide⟩ rfl rfl rfl rfl (Nat.le_of_ble_eq_true rfl) rfl rfl rfl rfl ?_
  refine z_aload_n K 0 dX2_tell_9 rfl ?_
  refine z_get (C := RX2) (T := TX2) (N := 4) (ci := 2) K iX2 rfl 0 rfl 1 (by decide) (by decide +kernel) rfl rfl dX2_tell_10 ?_
  refine z_get (C := RX1) (T := TX1) (N := 7) (ci := 1) K iX1 rfl 4 rfl 3 (by decide) (by decide +kernel) rfl rfl dX2_tell_13 ?_
  refine z_iload_n K 2 dX2_tell_16 rfl ?_
  refine z_ialdN K 7 0 v (by omega) (by omega) rfl rfl dX2_tell_17 ?_
  refine z_iload_n K 1 dX2_tell_18 rfl ?_
  refine z_callS (ws' := [(aX, .inr (2, [.ref aB, .ref aL, .ref aT, .int se])), (aB, .inr (0, [.int (nI n), .ref aB0, .ref aB1, .ref aB2, .ref aB3, .ref aB4, .ref aB5])), (aB0, .inl (cI, 20, .inl fm)), (aB1, .inl (cI, 20, .inl fb)), (aL, .inr (1, [.ref aL0, .ref aL1, .ref aL2, .ref aL3, .ref aL4, .ref aL5, .int hu])), (aL1, .inl (cI, 6, .inl lm)), (aL2, .inl (cI, 6, .inl lb)), (aL3, .inl (cI, 6, .inl lt))]) (st' := [.int (z_b (hs (lt v) (nI f)))]) (rest := []) K (m_X2_has l _ D cI cZ cQ cW (lt v) (nI f) ) gX2_tell_X2_has rfl 2 (by decide +kernel) dX2_tell_19 [] [] [] rfl rfl rfl ⟨by decide, by decide⟩ ⟨by decide, by decide⟩ rfl rfl rfl rfl (Nat.le_of_ble_eq_true rfl) rfl rfl rfl rfl ?_
  refine z_if_eqB K 35 dX2_tell_22 (by decide) (fun c22 => ?_) (fun c22 => ?_)
  · refine z_aload_n K 0 dX2_tell_35 rfl ?_
    refine z_get (C := RX2) (T := TX2) (N := 4) (ci := 2) K iX2 rfl 0 rfl 1 (by decide) (by decide +kernel) rfl rfl dX2_tell_36 ?_
    refine z_aload_n K 0 dX2_tell_39 rfl ?_
    refine z_get (C := RX2) (T := TX2) (N := 4) (ci := 2) K iX2 rfl 0 rfl 0 (by decide) (by decide +kernel) rfl rfl dX2_tell_40 ?_
    refine z_iload_n K 1 dX2_tell_43 rfl ?_
    refine z_iload_n K 2 dX2_tell_44 rfl ?_
    refine z_callV (ws' := [(aX, .inr (2, [.ref aB, .ref aL, .ref aT, .int se])), (aB, .inr (0, [.int (nI n), .ref aB0, .ref aB1, .ref aB2, .ref aB3, .ref aB4, .ref aB5])), (aB0, .inl (cI, 20, .inl fm)), (aB1, .inl (cI, 20, .inl fb)), (aL, .inr (1, [.ref aL0, .ref aL1, .ref aL2, .ref aL3, .ref aL4, .ref aL5, .int hu])), (aL1, .inl (cI, 6, .inl lm)), (aL2, .inl (cI, 6, .inl lb)), (aL3, .inl (cI, 6, .inl lt))]) (st' := [.int (z_b (ban lm lb fm fb f v))]) (rest := []) (C := RX1) (T := TX1) (N := 7) K (m_X1_bans l _ D cI cZ cQ cW aL aB f v aL0 aL1 aL2 aL3 aL4 aL5 hu lm lb n aB0 aB1 aB2 aB3 aB4 aB5 fm fb (by omega) (by omega)) gX2_tell_X1_bans rfl 3 1 (by decide +kernel) rfl dX2_tell_45 [4, 5, 6, 1, 2, 3] 4 [] [] rfl rfl rfl ⟨by decide, by decide⟩ ⟨by decide, by decide⟩ rfl rfl rfl rfl rfl (Nat.le_of_ble_eq_true rfl) rfl rfl rfl rfl ?_
    refine z_if_eqB K 61 dX2_tell_48 (by decide) (fun c48 => ?_) (fun c48 => ?_)
    · refine z_aload_n K 0 dX2_tell_61 rfl ?_
      refine z_get (C := RX2) (T := TX2) (N := 4) (ci := 2) K iX2 rfl 0 rfl 1 (by decide) (by decide +kernel) rfl rfl dX2_tell_62 ?_
      refine z_get (C := RX1) (T := TX1) (N := 7) (ci := 1) K iX1 rfl 4 rfl 3 (by decide) (by decide +kernel) rfl rfl dX2_tell_65 ?_
      refine z_iload_n K 2 dX2_tell_68 rfl ?_
      refine z_dup2 K dX2_tell_69 rfl rfl ?_
      refine z_ialdN K 7 0 v (by omega) (by omega) rfl rfl dX2_tell_70 ?_
      refine z_iconst (v := 1) K dX2_tell_71 (by decide) ?_
      refine z_iload_n K 1 dX2_tell_72 rfl ?_
      refine z_ishl K dX2_tell_73 ?_
      refine z_ior K dX2_tell_74 ?_
      refine z_iastN K 7 0 v (by omega) (by omega) rfl rfl dX2_tell_75 (z_memA 0 rfl) (ws' := [(aX, .inr (2, [.ref aB, .ref aL, .ref aT, .int se])), (aB, .inr (0, [.int (nI n), .ref aB0, .ref aB1, .ref aB2, .ref aB3, .ref aB4, .ref aB5])), (aB0, .inl (cI, 20, .inl fm)), (aB1, .inl (cI, 20, .inl fb)), (aL, .inr (1, [.ref aL0, .ref aL1, .ref aL2, .ref aL3, .ref aL4, .ref aL5, .int hu])), (aL1, .inl (cI, 6, .inl lm)), (aL2, .inl (cI, 6, .inl lb)), (aL3, .inl (cI, 6, .inl (upd lt v ((lt v) ||| ((1 : Int32) <<< (nI f &&& 31))))))]) rfl ?_
      refine z_aload_n K 0 dX2_tell_76 rfl ?_
      refine z_get (C := RX2) (T := TX2) (N := 4) (ci := 2) K iX2 rfl 0 rfl 1 (by decide) (by decide +kernel) rfl rfl dX2_tell_77 ?_
      refine z_iconst (v := 1) K dX2_tell_80 (by decide) ?_
      refine z_iload_n K 1 dX2_tell_81 rfl ?_
      refine z_ishl K dX2_tell_82 ?_
      refine z_callV (ws' := [(aX, .inr (2, [.ref aB, .ref aL, .ref aT, .int se])), (aB, .inr (0, [.int (nI n), .ref aB0, .ref aB1, .ref aB2, .ref aB3, .ref aB4, .ref aB5])), (aB0, .inl (cI, 20, .inl fm)), (aB1, .inl (cI, 20, .inl fb)), (aL, .inr (1, [.ref aL0, .ref aL1, .ref aL2, .ref aL3, .ref aL4, .ref aL5, .int hu])), (aL1, .inl (cI, 6, .inl lm)), (aL2, .inl (cI, 6, .inl lb)), (aL3, .inl (cI, 6, .inl (upd lt v ((lt v) ||| ((1 : Int32) <<< (nI f &&& 31))))))]) (st' := [.int (cntS (upd lt v ((lt v) ||| ((1 : Int32) <<< (nI f &&& 31)))) ((1 : Int32) <<< (nI f &&& 31)) 6)]) (rest := []) (C := RX1) (T := TX1) (N := 7) K (m_X1_count l _ D cI cZ cQ cW aL ((1 : Int32) <<< (nI f &&& 31)) aL0 aL1 aL2 aL3 aL4 aL5 hu (upd lt v ((lt v) ||| ((1 : Int32) <<< (nI f &&& 31)))) ) gX2_tell_X1_count rfl 1 1 (by decide +kernel) rfl dX2_tell_83 [4, 7] 4 [] [] rfl rfl rfl ⟨by decide, by decide⟩ ⟨by decide, by decide⟩ rfl rfl rfl rfl rfl (Nat.le_of_ble_eq_true rfl) rfl rfl rfl rfl ?_
      rw [show (cntS (upd lt v ((lt v) ||| ((1 : Int32) <<< (nI f &&& 31)))) ((1 : Int32) <<< (nI f &&& 31)) 6) = (cntS (upd lt v (lt v ||| ((1 : Int32) <<< (nI f &&& 31)))) ((1 : Int32) <<< (nI f &&& 31)) 6) from (by first | (simp only [c22, c48, Bool.false_eq_true, if_false, if_true, ↓reduceIte]; done) | rfl | simp [c22, c48])]
      rw [show (upd lt v ((lt v) ||| ((1 : Int32) <<< (nI f &&& 31)))) = (upd lt v (lt v ||| ((1 : Int32) <<< (nI f &&& 31)))) from (by first | (simp only [c22, c48, Bool.false_eq_true, if_false, if_true, ↓reduceIte]; done) | rfl | simp [c22, c48])]
      exact z_iret K dX2_tell_86 (rfl) [7] rfl (by decide) (by decide)
    · first | exact absurd (hnt.symm.trans c48) (by decide) | exact absurd (hnb.symm.trans c48) (by decide)
  · first | exact absurd (hnt.symm.trans c22) (by decide) | exact absurd (hnb.symm.trans c22) (by decide)

set_option maxRecDepth 100000 in
set_option maxHeartbeats 4000000 in
theorem m_X2_forget (l : Launch) (G : Nat → Prop) (D : va_G) (cI cZ cQ cW : ClassId) (aX : Nat) (f : Nat) (v : Nat) (aB : Nat) (aL : Nat) (aT : Nat) (se : Int32) (n : Nat) (aB0 : Nat) (aB1 : Nat) (aB2 : Nat) (aB3 : Nat) (aB4 : Nat) (aB5 : Nat) (aL0 : Nat) (aL1 : Nat) (aL2 : Nat) (aL3 : Nat) (aL4 : Nat) (aL5 : Nat) (hu : Int32) (lt : Nat → Int32) (hn : n ≤ 20) (hf : f < n) (hv : v < 6) (ht : hs (lt v) (nI f) = true) : z_M l yX2_forget wsX2_forget { frames := 3, cells := 0, slots := 0, locals := 63 } G D [(cI, .int), (cZ, .boolean), (cQ, .array .int), (cW, .array .boolean)] [.ref aX, .int (nI f), .int (nI v)] ([(aX, .inr (2, [.ref aB, .ref aL, .ref aT, .int se])), (aB, .inr (0, [.int (nI n), .ref aB0, .ref aB1, .ref aB2, .ref aB3, .ref aB4, .ref aB5])), (aL, .inr (1, [.ref aL0, .ref aL1, .ref aL2, .ref aL3, .ref aL4, .ref aL5, .int hu])), (aL3, .inl (cI, 6, .inl lt))]) (some (.int (cntS (upd lt v (tu (lt v) (nI f))) ((1 : Int32) <<< (nI f &&& 31)) 6))) [(aL3, .inl (cI, 6, .inl (upd lt v (tu (lt v) (nI f)))))] 0 0 := by
  have iX2 : ∀ w ∈ u_ws RX2 TX2 4, w ∈ wsX2_forget := fun w h => List.mem_cons_of_mem _ (List.mem_append_left _ (List.mem_append_left _ (List.mem_append_left _ (List.mem_append_left _ (List.mem_append_right _ h)))))
  have iX1 : ∀ w ∈ u_ws RX1 TX1 7, w ∈ wsX2_forget := fun w h => List.mem_cons_of_mem _ (List.mem_append_left _ (List.mem_append_left _ (List.mem_append_left _ (List.mem_append_right _ h))))
  have iX0 : ∀ w ∈ u_ws RX0 TX0 7, w ∈ wsX2_forget := fun w h => List.mem_cons_of_mem _ (List.mem_append_left _ (List.mem_append_left _ (List.mem_append_right _ h)))
  refine z_ofW (cc := cX2_forget) (nL := 3) (ret := (some .int)) (by decide) rfl (Nat.le_of_ble_eq_true rfl) [3] rfl (lv0 := [(0, .ref aX), (1, .int (nI f)), (2, .int (nI v))]) rfl ?_
  intro p e s m args below meth c K
  refine z_aload_n K 0 dX2_forget_0 rfl ?_
  refine z_iload_n K 1 dX2_forget_1 rfl ?_
  refine z_callV (ws' := [(aX, .inr (2, [.ref aB, .ref aL, .ref aT, .int se])), (aB, .inr (0, [.int (nI n), .ref aB0, .ref aB1, .ref aB2, .ref aB3, .ref aB4, .ref aB5])), (aL, .inr (1, [.ref aL0, .ref aL1, .ref aL2, .ref aL3, .ref aL4, .ref aL5, .int hu])), (aL3, .inl (cI, 6, .inl lt))]) (st' := []) (rest := []) (C := RX2) (T := TX2) (N := 4) K (m_X2_needFable l _ D cI cZ cQ cW aX f aB aL aT se n aB0 aB1 aB2 aB3 aB4 aB5 (by omega) (by omega)) gX2_forget_X2_needFable rfl 1 2 (by decide +kernel) rfl dX2_forget_2 [0, 1] 0 [] [] rfl rfl rfl ⟨by decide, by decide⟩ ⟨by decide, by decide⟩ rfl rfl rfl rfl rfl (Nat.le_of_ble_eq_true rfl) rfl rfl rfl rfl ?_
  refine z_iload_n K 2 dX2_forget_5 rfl ?_
  refine z_callS (ws' := [(aX, .inr (2, [.ref aB, .ref aL, .ref aT, .int se])), (aB, .inr (0, [.int (nI n), .ref aB0, .ref aB1, .ref aB2, .ref aB3, .ref aB4, .ref aB5])), (aL, .inr (1, [.ref aL0, .ref aL1, .ref aL2, .ref aL3, .ref aL4, .ref aL5, .int hu])), (aL3, .inl (cI, 6, .inl lt))]) (st' := []) (rest := []) K (m_X2_needValley l _ D cI cZ cQ cW v (by omega)) gX2_forget_X2_needValley rfl 1 (by decide +kernel) dX2_forget_6 [] [] [] rfl rfl rfl ⟨by decide, by decide⟩ ⟨by decide, by decide⟩ rfl rfl rfl rfl (Nat.le_of_ble_eq_true rfl) rfl rfl rfl rfl ?_
  refine z_aload_n K 0 dX2_forget_9 rfl ?_
  refine z_get (C := RX2) (T := TX2) (N := 4) (ci := 2) K iX2 rfl 0 rfl 1 (by decide) (by decide +kernel) rfl rfl dX2_forget_10 ?_
  refine z_get (C := RX1) (T := TX1) (N := 7) (ci := 1) K iX1 rfl 2 rfl 3 (by decide) (by decide +kernel) rfl rfl dX2_forget_13 ?_
  refine z_iload_n K 2 dX2_forget_16 rfl ?_
  refine z_ialdN K 3 0 v (by omega) (by omega) rfl rfl dX2_forget_17 ?_
  refine z_iload_n K 1 dX2_forget_18 rfl ?_
  refine z_callS (ws' := [(aX, .inr (2, [.ref aB, .ref aL, .ref aT, .int se])), (aB, .inr (0, [.int (nI n), .ref aB0, .ref aB1, .ref aB2, .ref aB3, .ref aB4, .ref aB5])), (aL, .inr (1, [.ref aL0, .ref aL1, .ref aL2, .ref aL3, .ref aL4, .ref aL5, .int hu])), (aL3, .inl (cI, 6, .inl lt))]) (st' := [.int (z_b (hs (lt v) (nI f)))]) (rest := []) K (m_X2_has l _ D cI cZ cQ cW (lt v) (nI f) ) gX2_forget_X2_has rfl 2 (by decide +kernel) dX2_forget_19 [] [] [] rfl rfl rfl ⟨by decide, by decide⟩ ⟨by decide, by decide⟩ rfl rfl rfl rfl (Nat.le_of_ble_eq_true rfl) rfl rfl rfl rfl ?_
  refine z_if_neB K 35 dX2_forget_22 (by decide) (fun c22 => ?_) (fun c22 => ?_)
  · refine z_aload_n K 0 dX2_forget_35 rfl ?_
    refine z_get (C := RX2) (T := TX2) (N := 4) (ci := 2) K iX2 rfl 0 rfl 1 (by decide) (by decide +kernel) rfl rfl dX2_forget_36 ?_
    refine z_get (C := RX1) (T := TX1) (N := 7) (ci := 1) K iX1 rfl 2 rfl 3 (by decide) (by decide +kernel) rfl rfl dX2_forget_39 ?_
    refine z_iload_n K 2 dX2_forget_42 rfl ?_
    refine z_aload_n K 0 dX2_forget_43 rfl ?_
    refine z_get (C := RX2) (T := TX2) (N := 4) (ci := 2) K iX2 rfl 0 rfl 1 (by decide) (by decide +kernel) rfl rfl dX2_forget_44 ?_
    refine z_get (C := RX1) (T := TX1) (N := 7) (ci := 1) K iX1 rfl 2 rfl 3 (by decide) (by decide +kernel) rfl rfl dX2_forget_47 ?_
    refine z_iload_n K 2 dX2_forget_50 rfl ?_
    refine z_ialdN K 3 0 v (by omega) (by omega) rfl rfl dX2_forget_51 ?_
    refine z_iload_n K 1 dX2_forget_52 rfl ?_
    refine z_callS (ws' := [(aX, .inr (2, [.ref aB, .ref aL, .ref aT, .int se])), (aB, .inr (0, [.int (nI n), .ref aB0, .ref aB1, .ref aB2, .ref aB3, .ref aB4, .ref aB5])), (aL, .inr (1, [.ref aL0, .ref aL1, .ref aL2, .ref aL3, .ref aL4, .ref aL5, .int hu])), (aL3, .inl (cI, 6, .inl lt))]) (st' := [.int (tu (lt v) (nI f)), .int (nI v), .ref aL3]) (rest := [.int (nI v), .ref aL3]) K (m_X2_turned l _ D cI cZ cQ cW (lt v) (nI f) ) gX2_forget_X2_turned rfl 2 (by decide +kernel) dX2_forget_53 [] [] [] rfl rfl rfl ⟨by decide, by decide⟩ ⟨by decide, by decide⟩ rfl rfl rfl rfl (Nat.le_of_ble_eq_true rfl) rfl rfl rfl rfl ?_
    refine z_iastN K 3 0 v (by omega) (by omega) rfl rfl dX2_forget_56 (z_memA 0 rfl) (ws' := [(aX, .inr (2, [.ref aB, .ref aL, .ref aT, .int se])), (aB, .inr (0, [.int (nI n), .ref aB0, .ref aB1, .ref aB2, .ref aB3, .ref aB4, .ref aB5])), (aL, .inr (1, [.ref aL0, .ref aL1, .ref aL2, .ref aL3, .ref aL4, .ref aL5, .int hu])), (aL3, .inl (cI, 6, .inl (upd lt v (tu (lt v) (nI f)))))]) rfl ?_
    refine z_aload_n K 0 dX2_forget_57 rfl ?_
    refine z_get (C := RX2) (T := TX2) (N := 4) (ci := 2) K iX2 rfl 0 rfl 1 (by decide) (by decide +kernel) rfl rfl dX2_forget_58 ?_
    refine z_iconst (v := 1) K dX2_forget_61 (by decide) ?_
    refine z_iload_n K 1 dX2_forget_62 rfl ?_
    refine z_ishl K dX2_forget_63 ?_
    refine z_callV (ws' := [(aX, .inr (2, [.ref aB, .ref aL, .ref aT, .int se])), (aB, .inr (0, [.int (nI n), .ref aB0, .ref aB1, .ref aB2, .ref aB3, .ref aB4, .ref aB5])), (aL, .inr (1, [.ref aL0, .ref aL1, .ref aL2, .ref aL3, .ref aL4, .ref aL5, .int hu])), (aL3, .inl (cI, 6, .inl (upd lt v (tu (lt v) (nI f)))))]) (st' := [.int (cntS (upd lt v (tu (lt v) (nI f))) ((1 : Int32) <<< (nI f &&& 31)) 6)]) (rest := []) (C := RX1) (T := TX1) (N := 7) K (m_X1_count l _ D cI cZ cQ cW aL ((1 : Int32) <<< (nI f &&& 31)) aL0 aL1 aL2 aL3 aL4 aL5 hu (upd lt v (tu (lt v) (nI f))) ) gX2_forget_X1_count rfl 1 1 (by decide +kernel) rfl dX2_forget_64 [2, 3] 2 [] [] rfl rfl rfl ⟨by decide, by decide⟩ ⟨by decide, by decide⟩ rfl rfl rfl rfl rfl (Nat.le_of_ble_eq_true rfl) rfl rfl rfl rfl ?_
    exact z_iret K dX2_forget_67 (rfl) [3] rfl (by decide) (by decide)
  · first | exact absurd (ht.symm.trans c22) (by decide)

set_option maxRecDepth 100000 in
set_option maxHeartbeats 4000000 in
theorem m_X2_passSeasons (l : Launch) (G : Nat → Prop) (D : va_G) (cI cZ cQ cW : ClassId) (aX : Nat) (q : Nat) (aB : Nat) (aL : Nat) (aT : Nat) (se : Int32) (n : Nat) (aB0 : Nat) (aB1 : Nat) (aB2 : Nat) (aB3 : Nat) (aB4 : Nat) (aB5 : Nat) (fm : Nat → Int32) (fb : Nat → Int32) (fv : Nat → Int32) (aL0 : Nat) (aL1 : Nat) (aL2 : Nat) (aL3 : Nat) (aL4 : Nat) (aL5 : Nat) (hu : Int32) (lw : Nat → Int32) (lm : Nat → Int32) (lb : Nat → Int32) (lt : Nat → Int32) (la : Nat → Int32) (lk : Nat → Int32) (hn : n ≤ 20) (hq1 : 1 ≤ q) (hq : q ≤ 40) : z_M l yX2_passSeasons wsX2_passSeasons { frames := 4, cells := 0, slots := 0, locals := 95 } G D [(cI, .int), (cZ, .boolean), (cQ, .array .int), (cW, .array .boolean)] [.ref aX, .int (nI q)] ([(aX, .inr (2, [.ref aB, .ref aL, .ref aT, .int se])), (aB, .inr (0, [.int (nI n), .ref aB0, .ref aB1, .ref aB2, .ref aB3, .ref aB4, .ref aB5])), (aB0, .inl (cI, 20, .inl fm)), (aB1, .inl (cI, 20, .inl fb)), (aB4, .inl (cI, 20, .inl fv)), (aL, .inr (1, [.ref aL0, .ref aL1, .ref aL2, .ref aL3, .ref aL4, .ref aL5, .int hu])), (aL0, .inl (cI, 6, .inl lw)), (aL1, .inl (cI, 6, .inl lm)), (aL2, .inl (cI, 6, .inl lb)), (aL3, .inl (cI, 6, .inl lt)), (aL4, .inl (cI, 6, .inl la)), (aL5, .inl (cI, 6, .inl lk))]) (some (.int (cntS (livS lw lm (alS lm lb fm fb n la 6) fm fv n lt lk hu q).1 (allS n) 6))) [(aX, .inr (2, [.ref aB, .ref aL, .ref aT, .int (se + (nI q))])), (aL, .inr (1, [.ref aL0, .ref aL1, .ref aL2, .ref aL3, .ref aL4, .ref aL5, .int ((livS lw lm (alS lm lb fm fb n la 6) fm fv n lt lk hu q).2.2.1)])), (aL3, .inl (cI, 6, .inl ((livS lw lm (alS lm lb fm fb n la 6) fm fv n lt lk hu q).1))), (aL4, .inl (cI, 6, .inl (alS lm lb fm fb n la 6))), (aL5, .inl (cI, 6, .inl ((livS lw lm (alS lm lb fm fb n la 6) fm fv n lt lk hu q).2.1)))] 0 0 := by
  have iX2 : ∀ w ∈ u_ws RX2 TX2 4, w ∈ wsX2_passSeasons := fun w h => List.mem_cons_of_mem _ (List.mem_append_left _ (List.mem_append_left _ (List.mem_append_left _ (List.mem_append_right _ h))))
  have iX1 : ∀ w ∈ u_ws RX1 TX1 7, w ∈ wsX2_passSeasons := fun w h => List.mem_cons_of_mem _ (List.mem_append_left _ (List.mem_append_left _ (List.mem_append_right _ h)))
  have iX0 : ∀ w ∈ u_ws RX0 TX0 7, w ∈ wsX2_passSeasons := fun w h => List.mem_cons_of_mem _ (List.mem_append_left _ (List.mem_append_right _ h))
  refine z_ofW (cc := cX2_passSeasons) (nL := 2) (ret := (some .int)) (by decide) rfl (Nat.le_of_ble_eq_true rfl) [0, 5, 9, 10, 11] rfl (lv0 := [(0, .ref aX), (1, .int (nI q))]) rfl ?_
  intro p e s m args below meth c K
  refine z_iload_n K 1 dX2_passSeasons_0 rfl ?_
  refine z_bipush (v := 40) K dX2_passSeasons_1 (by decide) ?_
  refine z_callS (ws' := [(aX, .inr (2, [.ref aB, .ref aL, .ref aT, .int se])), (aB, .inr (0, [.int (nI n), .ref aB0, .ref aB1, .ref aB2, .ref aB3, .ref aB4, .ref aB5])), (aB0, .inl (cI, 20, .inl fm)), (aB1, .inl (cI, 20, .inl fb)), (aB4, .inl (cI, 20, .inl fv)), (aL, .inr (1, [.ref aL0, .ref aL1, .ref aL2, .ref aL3, .ref aL4, .ref aL5, .int hu])), (aL0, .inl (cI, 6, .inl lw)), (aL1, .inl (cI, 6, .inl lm)), (aL2, .inl (cI, 6, .inl lb)), (aL3, .inl (cI, 6, .inl lt)), (aL4, .inl (cI, 6, .inl la)), (aL5, .inl (cI, 6, .inl lk))]) (st' := []) (rest := []) K (m_X2_needSeasons l _ D cI cZ cQ cW q (by omega) (by omega)) gX2_passSeasons_X2_needSeasons rfl 2 (by decide +kernel) dX2_passSeasons_3 [] [] [] rfl rfl rfl ⟨by decide, by decide⟩ ⟨by decide, by decide⟩ rfl rfl rfl rfl (Nat.le_of_ble_eq_true rfl) rfl rfl rfl rfl ?_
  refine z_aload_n K 0 dX2_passSeasons_6 rfl ?_
  refine z_get (C := RX2) (T := TX2) (N := 4) (ci := 2) K iX2 rfl 0 rfl 1 (by decide) (by decide +kernel) rfl rfl dX2_passSeasons_7 ?_
  refine z_aload_n K 0 dX2_passSeasons_10 rfl ?_
  refine z_get (C := RX2) (T := TX2) (N := 4) (ci := 2) K iX2 rfl 0 rfl 0 (by decide) (by decide +kernel) rfl rfl dX2_passSeasons_11 ?_
  refine z_iload_n K 1 dX2_passSeasons_14 rfl ?_
  refine z_callV (ws' := [(aX, .inr (2, [.ref aB, .ref aL, .ref aT, .int se])), (aB, .inr (0, [.int (nI n), .ref aB0, .ref aB1, .ref aB2, .ref aB3, .ref aB4, .ref aB5])), (aB0, .inl (cI, 20, .inl fm)), (aB1, .inl (cI, 20, .inl fb)), (aB4, .inl (cI, 20, .inl fv)), (aL, .inr (1, [.ref aL0, .ref aL1, .ref aL2, .ref aL3, .ref aL4, .ref aL5, .int ((livS lw lm (alS lm lb fm fb n la 6) fm fv n lt lk hu q).2.2.1)])), (aL0, .inl (cI, 6, .inl lw)), (aL1, .inl (cI, 6, .inl lm)), (aL2, .inl (cI, 6, .inl lb)), (aL3, .inl (cI, 6, .inl ((livS lw lm (alS lm lb fm fb n la 6) fm fv n lt lk hu q).1))), (aL4, .inl (cI, 6, .inl (alS lm lb fm fb n la 6))), (aL5, .inl (cI, 6, .inl ((livS lw lm (alS lm lb fm fb n la 6) fm fv n lt lk hu q).2.1)))]) (st' := []) (rest := []) (C := RX1) (T := TX1) (N := 7) K (m_X1_live l _ D cI cZ cQ cW aL aB q aL0 aL1 aL2 aL3 aL4 aL5 hu lw lm lb lt la lk n aB0 aB1 aB2 aB3 aB4 aB5 fm fb fv (by omega) (by omega)) gX2_passSeasons_X1_live rfl 2 1 (by decide +kernel) rfl dX2_passSeasons_15 [5, 6, 7, 8, 9, 10, 11, 1, 2, 3, 4] 5 [5, 9, 10, 11] [1, 2, 3, 4] rfl rfl rfl ⟨by decide, by decide⟩ ⟨by decide, by decide⟩ rfl rfl rfl rfl rfl (Nat.le_of_ble_eq_true rfl) rfl rfl rfl rfl ?_
  refine z_aload_n K 0 dX2_passSeasons_18 rfl ?_
  refine z_dup K dX2_passSeasons_19 rfl ?_
  refine z_get (C := RX2) (T := TX2) (N := 4) (ci := 2) K iX2 rfl 0 rfl 3 (by decide) (by decide +kernel) rfl rfl dX2_passSeasons_20 ?_
  refine z_iload_n K 1 dX2_passSeasons_23 rfl ?_
  refine z_iadd K dX2_passSeasons_24 ?_
  refine z_put (C := RX2) (T := TX2) (N := 4) (ci := 2) K iX2 rfl tyX2 tyX2_ok nmX2 0 rfl 3 (by decide) (by decide +kernel) rfl rfl rfl rfl (Nat.le_of_ble_eq_true rfl) (z_memA 0 rfl) (ws' := [(aX, .inr (2, [.ref aB, .ref aL, .ref aT, .int (se + nI q)])), (aB, .inr (0, [.int (nI n), .ref aB0, .ref aB1, .ref aB2, .ref aB3, .ref aB4, .ref aB5])), (aB0, .inl (cI, 20, .inl fm)), (aB1, .inl (cI, 20, .inl fb)), (aB4, .inl (cI, 20, .inl fv)), (aL, .inr (1, [.ref aL0, .ref aL1, .ref aL2, .ref aL3, .ref aL4, .ref aL5, .int ((livS lw lm (alS lm lb fm fb n la 6) fm fv n lt lk hu q).2.2.1)])), (aL0, .inl (cI, 6, .inl lw)), (aL1, .inl (cI, 6, .inl lm)), (aL2, .inl (cI, 6, .inl lb)), (aL3, .inl (cI, 6, .inl ((livS lw lm (alS lm lb fm fb n la 6) fm fv n lt lk hu q).1))), (aL4, .inl (cI, 6, .inl (alS lm lb fm fb n la 6))), (aL5, .inl (cI, 6, .inl ((livS lw lm (alS lm lb fm fb n la 6) fm fv n lt lk hu q).2.1)))]) rfl dX2_passSeasons_25 ?_
  refine z_aload_n K 0 dX2_passSeasons_28 rfl ?_
  refine z_get (C := RX2) (T := TX2) (N := 4) (ci := 2) K iX2 rfl 0 rfl 1 (by decide) (by decide +kernel) rfl rfl dX2_passSeasons_29 ?_
  refine z_aload_n K 0 dX2_passSeasons_32 rfl ?_
  refine z_get (C := RX2) (T := TX2) (N := 4) (ci := 2) K iX2 rfl 0 rfl 0 (by decide) (by decide +kernel) rfl rfl dX2_passSeasons_33 ?_
  refine z_callV (ws' := [(aX, .inr (2, [.ref aB, .ref aL, .ref aT, .int (se + nI q)])), (aB, .inr (0, [.int (nI n), .ref aB0, .ref aB1, .ref aB2, .ref aB3, .ref aB4, .ref aB5])), (aB0, .inl (cI, 20, .inl fm)), (aB1, .inl (cI, 20, .inl fb)), (aB4, .inl (cI, 20, .inl fv)), (aL, .inr (1, [.ref aL0, .ref aL1, .ref aL2, .ref aL3, .ref aL4, .ref aL5, .int ((livS lw lm (alS lm lb fm fb n la 6) fm fv n lt lk hu q).2.2.1)])), (aL0, .inl (cI, 6, .inl lw)), (aL1, .inl (cI, 6, .inl lm)), (aL2, .inl (cI, 6, .inl lb)), (aL3, .inl (cI, 6, .inl ((livS lw lm (alS lm lb fm fb n la 6) fm fv n lt lk hu q).1))), (aL4, .inl (cI, 6, .inl (alS lm lb fm fb n la 6))), (aL5, .inl (cI, 6, .inl ((livS lw lm (alS lm lb fm fb n la 6) fm fv n lt lk hu q).2.1)))]) (st' := [.int (allS n), .ref aL]) (rest := [.ref aL]) (C := RX0) (T := TX0) (N := 7) K (m_X0_all l _ D cI cZ cQ cW aB n aB0 aB1 aB2 aB3 aB4 aB5 ) gX2_passSeasons_X0_all rfl 0 0 (by decide +kernel) rfl dX2_passSeasons_36 [1] 1 [] [] rfl rfl rfl ⟨by decide, by decide⟩ ⟨by decide, by decide⟩ rfl rfl rfl rfl rfl (Nat.le_of_ble_eq_true rfl) rfl rfl rfl rfl ?_
  refine z_callV (ws' := [(aX, .inr (2, [.ref aB, .ref aL, .ref aT, .int (se + nI q)])), (aB, .inr (0, [.int (nI n), .ref aB0, .ref aB1, .ref aB2, .ref aB3, .ref aB4, .ref aB5])), (aB0, .inl (cI, 20, .inl fm)), (aB1, .inl (cI, 20, .inl fb)), (aB4, .inl (cI, 20, .inl fv)), (aL, .inr (1, [.ref aL0, .ref aL1, .ref aL2, .ref aL3, .ref aL4, .ref aL5, .int ((livS lw lm (alS lm lb fm fb n la 6) fm fv n lt lk hu q).2.2.1)])), (aL0, .inl (cI, 6, .inl lw)), (aL1, .inl (cI, 6, .inl lm)), (aL2, .inl (cI, 6, .inl lb)), (aL3, .inl (cI, 6, .inl ((livS lw lm (alS lm lb fm fb n la 6) fm fv n lt lk hu q).1))), (aL4, .inl (cI, 6, .inl (alS lm lb fm fb n la 6))), (aL5, .inl (cI, 6, .inl ((livS lw lm (alS lm lb fm fb n la 6) fm fv n lt lk hu q).2.1)))]) (st' := [.int (cntS ((livS lw lm (alS lm lb fm fb n la 6) fm fv n lt lk hu q).1) (allS n) 6)]) (rest := []) (C := RX1) (T := TX1) (N := 7) K (m_X1_count l _ D cI cZ cQ cW aL (allS n) aL0 aL1 aL2 aL3 aL4 aL5 ((livS lw lm (alS lm lb fm fb n la 6) fm fv n lt lk hu q).2.2.1) ((livS lw lm (alS lm lb fm fb n la 6) fm fv n lt lk hu q).1) ) gX2_passSeasons_X1_count rfl 1 1 (by decide +kernel) rfl dX2_passSeasons_39 [5, 9] 5 [] [] rfl rfl rfl ⟨by decide, by decide⟩ ⟨by decide, by decide⟩ rfl rfl rfl rfl rfl (Nat.le_of_ble_eq_true rfl) rfl rfl rfl rfl ?_
  rw [show (cntS ((livS lw lm (alS lm lb fm fb n la 6) fm fv n lt lk hu q).1) (allS n) 6) = (cntS (livS lw lm (alS lm lb fm fb n la 6) fm fv n lt lk hu q).1 (allS n) 6) from rfl]
  rw [show (se + nI q) = (se + (nI q)) from rfl]
  exact z_iret K dX2_passSeasons_42 (rfl) [0, 5, 9, 10, 11] rfl (by decide) (by decide)
