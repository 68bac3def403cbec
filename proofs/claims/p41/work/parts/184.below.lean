set_option maxRecDepth 100000 in
set_option maxHeartbeats 4000000 in
theorem m_L_below (l : Launch) (G : Nat → Prop) (D : va_G) (cI cZ cQ cW : ClassId) (w : Int32) (dd : Nat) (hd0 : 0 < dd) (hdd : dd < 65536) : z_M l yL_below wsL_below { frames := 0, cells := 0, slots := 0, locals := 0 } G D [(cI, .int), (cZ, .boolean), (cQ, .array .int), (cW, .array .boolean)] [.int w, .int (nI dd)] ([]) (some (.int (nI (bl w dd)))) [] 0 0 := by
  refine z_ofW (cc := cL_below) (nL := 2) (ret := (some .int)) (by decide) rfl (Nat.le_of_ble_eq_true rfl) [] rfl (lv0 := [(0, .int w), (1, .int (nI dd))]) rfl ?_
  intro p e s m args below meth c K
  refine z_iload_n K 0 dL_below_0 rfl ?_
  refine z_ldc (v := 2147483647) K dL_below_1 (by decide +kernel) ?_
  refine z_iand K dL_below_3 ?_
  refine z_iload_n K 1 dL_below_4 rfl ?_
  obtain ⟨j, hj, ej⟩ := and_nn w
  refine z_irem K j dd ej rfl hj hd0 (by omega) dL_below_5 ?_
  exact z_iret K dL_below_6 ((by unfold bl; rw [ej, ix_nI (by omega)])) [] rfl (by decide) (by decide)
