set_option maxRecDepth 100000 in
set_option maxHeartbeats 4000000 in
theorem n_X3_pass (l : Launch) (G : Nat → Prop) (D : va_G) (cI cZ cQ cW : ClassId) (u : Nat → Nat) (r : Nat → Nat → Nat) (n : Nat) (ss : Int32) (sl : Int32) (MM : Nat → Nat) (HH : Nat → Nat) (PP : Nat → Int32) (BB : Nat → Nat → Bool) (TB : Nat → Nat → Bool) (MB : Nat → Nat → Bool) (AB : Nat → Nat → Bool) (PB : Nat → Nat → Bool) (hn : n ≤ 20) (hMM : ∀ k, k < n → MM k < 10) : z_MN l yX3_pass wsX3_pass { frames := 1, cells := 21, slots := 140, locals := 24 } G D [(cI, .int), (cZ, .boolean), (cQ, .array .int), (cW, .array .boolean)] [.ref (u 0)] (simW cI cZ cQ cW u r n ss sl MM HH PP BB TB MB AB PB) (fun _ => True) (β := (Nat → Nat) × (Nat → Nat → Nat)) (fun b => b.1 0 = u 0) (fun _ => none) (fun b => simW cI cZ cQ cW b.1 b.2 n (ss + 1) ((psT MM PP BB MB AB PB n (TB, sl)).2) MM HH PP BB ((psT MM PP BB MB AB PB n (TB, sl)).1) MB AB PB) 21 140 := by
  have iX3 : ∀ w ∈ u_ws RX3 TX3 9, w ∈ wsX3_pass := fun w h => List.mem_cons_of_mem _ (List.mem_append_right _ h)
  refine z_ofWN (cc := cX3_pass) (nL := 7) (ret := none) (by decide) rfl (Nat.le_of_ble_eq_true rfl) (lv0 := [(0, .ref (u 0))]) rfl ?_
  intro p e s m args below meth c K hname hX hAG
  refine z_iconst (v := 0) K dX3_pass_0 (by decide) ?_
  refine z_istore_n (lv' := [(1, .int 0), (0, .ref (u 0))]) K dX3_pass_1 (by decide) rfl ?_
  refine z_loop (wsf := fun f => simW cI cZ cQ cW u r n ss ((p1O MM BB MB AB (TB, sl) f).2) MM HH PP BB ((p1O MM BB MB AB (TB, sl) f).1) MB AB PB) (lvf := fun f => [(1, .int (nI f)), (0, .ref (u 0))]) n (by first | (simp only [p1O_0]; done) | (simp only [p1O_0]; rfl) | rfl) (by first | (simp only [p1O_0]; done) | (simp only [p1O_0]; rfl) | rfl) ?_ (fun f hf ihf => ?_)
  · refine z_iload_n K 0 dX3_pass_2 rfl ?_
    refine z_aload_n K 1 dX3_pass_3 rfl ?_
    refine z_get (C := RX3) (T := TX3) (N := 9) (ci := 3) (v := .int (nI n)) K iX3 rfl 0 rfl 0 (by decide) (by decide +kernel) rfl rfl dX3_pass_4 ?_
    refine z_cmpN K 72 n n dX3_pass_7 (by decide) rfl rfl (by omega) (by omega) (fun _ => ?_) (fun h => absurd h (by omega))
    refine z_bipush (v := 20) K dX3_pass_72 (by decide) ?_
    refine z_bipush (v := 6) K dX3_pass_74 (by decide) ?_
    refine z_mna K (by decide +kernel) (by decide +kernel) K.2.2.2.2.2.2.2.2.1.2.2.2.2.1 3 1 rfl rfl 20 6 rfl rfl (by omega) (by omega) (by decide) (by decide) dX3_pass_76 (fun q76 r76 hq76 hr76 => ?_)
    refine z_astore_n (lv' := [(1, .ref q76), (0, .ref (u 0))]) K dX3_pass_80 (by decide) rfl ?_
    refine z_iconst (v := 0) K dX3_pass_81 (by decide) ?_
    refine z_istore_n (lv' := [(2, .int 0), (1, .ref q76), (0, .ref (u 0))]) K dX3_pass_82 (by decide) rfl ?_
    refine z_loop (wsf := fun f => (simW cI cZ cQ cW u r n ss ((p1O MM BB MB AB (TB, sl) n).2) MM HH PP BB ((p1O MM BB MB AB (TB, sl) n).1) MB AB PB) ++ gridW cW cZ q76 20 6 r76 (p2F MM PP BB ((p1O MM BB MB AB (TB, sl) n).1) MB AB PB n (fun _ _ => false) f)) (lvf := fun f => [(2, .int (nI f)), (1, .ref q76), (0, .ref (u 0))]) n (by first | (simp only [p2F_0]; done) | (simp only [p2F_0]; rfl) | rfl) (by first | (simp only [p2F_0]; done) | (simp only [p2F_0]; rfl) | rfl) ?_ (fun f hf ihf => ?_)
    · refine z_iload_n K 0 dX3_pass_83 rfl ?_
      refine z_aload_n K 2 dX3_pass_84 rfl ?_
      refine z_get (C := RX3) (T := TX3) (N := 9) (ci := 3) (v := .int (nI n)) K iX3 rfl 0 rfl 0 (by decide) (by decide +kernel) rfl rfl dX3_pass_85 ?_
      refine z_cmpN K 257 n n dX3_pass_88 (by decide) rfl rfl (by omega) (by omega) (fun _ => ?_) (fun h => absurd h (by omega))
      refine z_aload_n K 2 dX3_pass_257 rfl ?_
      refine z_aload_n K 1 dX3_pass_258 rfl ?_
      refine z_putG (C := RX3) (T := TX3) (N := 9) (ci := 3) (q0 := 0) K iX3 rfl tyX3 tyX3_ok nmX3 rfl 5 (by decide) (by decide +kernel) rfl rfl rfl rfl (Nat.le_of_ble_eq_true rfl) rfl dX3_pass_259 ?_
      refine z_perm sw_told ?_
      refine z_subl (ws' := simW cI cZ cQ cW (upA u 3 q76) (upA r 2 r76) n ss ((p1O MM BB MB AB (TB, sl) n).2) MM HH PP BB (p2F MM PP BB ((p1O MM BB MB AB (TB, sl) n).1) MB AB PB n (fun _ _ => false) n) MB AB PB) (List.Sublist.cons _ (List.sublist_append_right _ _)) ?_
      refine z_lvE (lv' := [(2, .int (nI n)), (1, .ref q76), (0, .ref (upA u 3 q76 0))]) rfl ?_
      refine z_aload_n K 2 dX3_pass_262 rfl ?_
      refine z_dup K dX3_pass_263 rfl ?_
      refine z_get (C := RX3) (T := TX3) (N := 9) (ci := 3) (v := .int ss) K iX3 rfl 0 rfl 1 (by decide) (by decide +kernel) rfl rfl dX3_pass_264 ?_
      refine z_iconst (v := 1) K dX3_pass_267 (by decide) ?_
      refine z_iadd K dX3_pass_268 ?_
      refine z_putG (C := RX3) (T := TX3) (N := 9) (ci := 3) (q0 := 0) K iX3 rfl tyX3 tyX3_ok nmX3 rfl 1 (by decide) (by decide +kernel) rfl rfl rfl rfl (Nat.le_of_ble_eq_true rfl) (ws' := simW cI cZ cQ cW (upA u 3 q76) (upA r 2 r76) n (ss + 1) ((p1O MM BB MB AB (TB, sl) n).2) MM HH PP BB (p2F MM PP BB ((p1O MM BB MB AB (TB, sl) n).1) MB AB PB n (fun _ _ => false) n) MB AB PB) rfl dX3_pass_269 ?_
      exact z_vretN K dX3_pass_272 (upA u 3 q76, upA r 2 r76) rfl rfl rfl (by decide) (by decide)
    · refine z_iload_n K 0 dX3_pass_83 rfl ?_
      refine z_aload_n K 2 dX3_pass_84 rfl ?_
      refine z_get (C := RX3) (T := TX3) (N := 9) (ci := 3) (v := .int (nI n)) K iX3 rfl 0 rfl 0 (by decide) (by decide +kernel) rfl rfl dX3_pass_85 ?_
      refine z_cmpN K 257 f n dX3_pass_88 (by decide) rfl rfl (by omega) (by omega) (fun h => absurd h (by omega)) (fun _ => ?_)
      refine z_iconst (v := 0) K dX3_pass_91 (by decide) ?_
      refine z_istore_n (lv' := [(3, .int 0), (2, .int (nI f)), (1, .ref q76), (0, .ref (u 0))]) K dX3_pass_92 (by decide) rfl ?_
      refine z_loop (wsf := fun v => (simW cI cZ cQ cW u r n ss ((p1O MM BB MB AB (TB, sl) n).2) MM HH PP BB ((p1O MM BB MB AB (TB, sl) n).1) MB AB PB) ++ gridW cW cZ q76 20 6 r76 (p2V MM PP BB ((p1O MM BB MB AB (TB, sl) n).1) MB AB PB n f (p2F MM PP BB ((p1O MM BB MB AB (TB, sl) n).1) MB AB PB n (fun _ _ => false) f) v)) (lvf := fun v => [(3, .int (nI v)), (2, .int (nI f)), (1, .ref q76), (0, .ref (u 0))]) 6 (by first | (simp only [p2V_0]; done) | (simp only [p2V_0]; rfl) | rfl) (by first | (simp only [p2V_0]; done) | (simp only [p2V_0]; rfl) | rfl) ?_ (fun v hv ihv => ?_)
      · refine z_iload_n K 0 dX3_pass_93 rfl ?_
        refine z_bipush (v := 6) K dX3_pass_94 (by decide) ?_
        refine z_cmpN K 251 6 6 dX3_pass_96 (by decide) rfl rfl (by omega) (by omega) (fun _ => ?_) (fun h => absurd h (by omega))
        refine z_iinc (lv' := [(2, .int (nI (f + 1))), (3, .int (nI 6)), (1, .ref q76), (0, .ref (u 0))]) (v := nI (f + 1)) K 1 dX3_pass_251 rfl (z_inc1 f) (by decide) rfl ?_
        refine z_goto K 83 dX3_pass_254 (by decide) ?_
        refine z_lv (lv' := [(2, .int (nI (f + 1))), (1, .ref q76), (0, .ref (u 0))]) [0, 2, 3] rfl ?_
        rw [show (p2F MM PP BB ((p1O MM BB MB AB (TB, sl) n).1) MB AB PB n (fun _ _ => false) (f + 1)) = (p2V MM PP BB ((p1O MM BB MB AB (TB, sl) n).1) MB AB PB n f (p2F MM PP BB ((p1O MM BB MB AB (TB, sl) n).1) MB AB PB n (fun _ _ => false) f) 6) from (by first | (simp only [p1I_succ, p1O_succ, p2F_succ, Bool.false_eq_true, if_false, if_true, ↓reduceIte]; done) | rfl | simp [p1I_succ, p1O_succ, p2F_succ])] at ihf
        exact ihf
      · refine z_iload_n K 0 dX3_pass_93 rfl ?_
        refine z_bipush (v := 6) K dX3_pass_94 (by decide) ?_
        refine z_cmpN K 251 v 6 dX3_pass_96 (by decide) rfl rfl (by omega) (by omega) (fun h => absurd h (by omega)) (fun _ => ?_)
        refine z_aload_n K 3 dX3_pass_99 rfl ?_
        refine z_get (C := RX3) (T := TX3) (N := 9) (ci := 3) (v := .ref (u 3)) K iX3 rfl 0 rfl 5 (by decide) (by decide +kernel) rfl rfl dX3_pass_100 ?_
        refine z_iload_n K 1 dX3_pass_103 rfl ?_
        refine z_aald (y := (r 2 f)) K 3 3 f rfl rfl rfl (by omega) (by omega) (sm_ref_at (by omega)) dX3_pass_104 ?_
        refine z_iload_n K 0 dX3_pass_105 rfl ?_
        refine z_zald (x := (z_b (((p1O MM BB MB AB (TB, sl) n).1) f v))) K _ 1 v (gb (sw_O (by omega))) rfl (by omega) (by omega) dX3_pass_106 rfl ?_
        refine z_if_neB K 113 dX3_pass_107 (by decide) (fun c107 => ?_) (fun c107 => ?_)
        · refine z_aload_n K 2 dX3_pass_113 rfl ?_
          refine z_iload_n K 1 dX3_pass_114 rfl ?_
          refine z_aald (y := (r76 f)) K _ 3 f (ga (n := _) sw_len gr_o) rfl rfl (by omega) (by omega) (sm_ref_at (by omega)) dX3_pass_115 ?_
          refine z_iload_n K 0 dX3_pass_116 rfl ?_
          refine z_iconst (v := 1) K dX3_pass_117 (by decide) ?_
          refine z_zastG (b := true) K 1 v rfl (ga (n := _) sw_len (gr_r (by omega))) rfl (by omega) (by omega) dX3_pass_118 (ws' := (simW cI cZ cQ cW u r n ss ((p1O MM BB MB AB (TB, sl) n).2) MM HH PP BB ((p1O MM BB MB AB (TB, sl) n).1) MB AB PB) ++ gridW cW cZ q76 20 6 r76 (up2 (p2V MM PP BB ((p1O MM BB MB AB (TB, sl) n).1) MB AB PB n f (p2F MM PP BB ((p1O MM BB MB AB (TB, sl) n).1) MB AB PB n (fun _ _ => false) f) v) f v true)) ((sa sw_len).trans (congrArg _ (gr_set (by omega)))) ?_
          refine z_iconst (v := 0) K dX3_pass_119 (by decide) ?_
          refine z_istore (lv' := [(4, .int 0), (3, .int (nI v)), (2, .int (nI f)), (1, .ref q76), (0, .ref (u 0))]) K dX3_pass_120 (by decide) rfl ?_
          refine z_loop (wsf := fun to => (simW cI cZ cQ cW u r n ss ((p1O MM BB MB AB (TB, sl) n).2) MM HH PP BB ((p1O MM BB MB AB (TB, sl) n).1) MB AB PB) ++ gridW cW cZ q76 20 6 r76 (p2T MM PP BB MB AB PB n f v (up2 (p2V MM PP BB ((p1O MM BB MB AB (TB, sl) n).1) MB AB PB n f (p2F MM PP BB ((p1O MM BB MB AB (TB, sl) n).1) MB AB PB n (fun _ _ => false) f) v) f v true) to)) (lvf := fun to => [(4, .int (nI to)), (3, .int (nI v)), (2, .int (nI f)), (1, .ref q76), (0, .ref (u 0))]) 6 (by first | (simp only [p2T_0]; done) | (simp only [p2T_0]; rfl) | rfl) (by first | (simp only [p2T_0]; done) | (simp only [p2T_0]; rfl) | rfl) ?_ (fun to hto ihto => ?_)
          · refine z_iload K 0 dX3_pass_122 rfl ?_
            refine z_bipush (v := 6) K dX3_pass_124 (by decide) ?_
            refine z_cmpN K 245 6 6 dX3_pass_126 (by decide) rfl rfl (by omega) (by omega) (fun _ => ?_) (fun h => absurd h (by omega))
            refine z_iinc (lv' := [(3, .int (nI (v + 1))), (4, .int (nI 6)), (2, .int (nI f)), (1, .ref q76), (0, .ref (u 0))]) (v := nI (v + 1)) K 1 dX3_pass_245 rfl (z_inc1 v) (by decide) rfl ?_
            refine z_goto K 93 dX3_pass_248 (by decide) ?_
            refine z_lv (lv' := [(3, .int (nI (v + 1))), (2, .int (nI f)), (1, .ref q76), (0, .ref (u 0))]) [0, 2, 3, 4] rfl ?_
            rw [show (p2V MM PP BB ((p1O MM BB MB AB (TB, sl) n).1) MB AB PB n f (p2F MM PP BB ((p1O MM BB MB AB (TB, sl) n).1) MB AB PB n (fun _ _ => false) f) (v + 1)) = (p2T MM PP BB MB AB PB n f v (up2 (p2V MM PP BB ((p1O MM BB MB AB (TB, sl) n).1) MB AB PB n f (p2F MM PP BB ((p1O MM BB MB AB (TB, sl) n).1) MB AB PB n (fun _ _ => false) f) v) f v true) 6) from (by rw [p2V_succ, if_pos c107])] at ihv
            exact ihv
          · refine z_iload K 0 dX3_pass_122 rfl ?_
            refine z_bipush (v := 6) K dX3_pass_124 (by decide) ?_
            refine z_cmpN K 245 to 6 dX3_pass_126 (by decide) rfl rfl (by omega) (by omega) (fun h => absurd h (by omega)) (fun _ => ?_)
            refine z_aload_n K 4 dX3_pass_129 rfl ?_
            refine z_get (C := RX3) (T := TX3) (N := 9) (ci := 3) (v := .ref (u 6)) K iX3 rfl 0 rfl 8 (by decide) (by decide +kernel) rfl rfl dX3_pass_130 ?_
            refine z_iload_n K 1 dX3_pass_133 rfl ?_
            refine z_aald (y := (r 5 v)) K 6 3 v rfl rfl rfl (by omega) (by omega) (sm_ref_at (by omega)) dX3_pass_134 ?_
            refine z_iload K 0 dX3_pass_135 rfl ?_
            refine z_zald (x := (z_b (PB v to))) K _ 1 to (gb (sw_P (by omega))) rfl (by omega) (by omega) dX3_pass_137 rfl ?_
            refine z_if_neB K 144 dX3_pass_138 (by decide) (fun c138 => ?_) (fun c138 => ?_)
            · refine z_iload_n K 2 dX3_pass_144 rfl ?_
              refine z_istore (lv' := [(5, .int (nI f)), (4, .int (nI to)), (3, .int (nI v)), (2, .int (nI f)), (1, .ref q76), (0, .ref (u 0))]) K dX3_pass_145 (by decide) rfl ?_
              refine z_aload_n K 5 dX3_pass_147 rfl ?_
              refine z_iload_n K 3 dX3_pass_148 rfl ?_
              refine z_iload K 1 dX3_pass_149 rfl ?_
              refine z_cV (st' := [.int (z_b (bnS MM BB MB AB f to 12))]) (rest := []) (C := RX3) (T := TX3) (N := 9) (q0 := 0) K (m_X3_isBanned l _ D cI cZ cQ cW u f to r n ss ((p1O MM BB MB AB (TB, sl) n).2) MM HH PP BB ((p1O MM BB MB AB (TB, sl) n).1) MB AB PB (hn) (hMM) (by omega) (by omega)) gX3_pass_X3_isBanned rfl 2 3 (by decide +kernel) rfl dX3_pass_151 (List.sublist_append_left _ _) rfl rfl ⟨by decide, by decide⟩ ⟨by decide, by decide⟩ rfl rfl rfl (Nat.le_of_ble_eq_true rfl) rfl ?_
              refine z_if_eqB K 226 dX3_pass_154 (by decide) (fun c154 => ?_) (fun c154 => ?_)
              · have hcm : cmS MM PP BB MB AB n f to = (nI f) := by unfold cmS; rw [if_neg (by rw [c154]; decide)]
                rcases cmS_cases MM PP BB MB AB to (n := n) (f := f) (by omega) with h1 | ⟨j, hj, h1⟩
                · refine z_lvE (lv' := [(5, .int (-1)), (4, .int (nI to)), (3, .int (nI v)), (2, .int (nI f)), (1, .ref q76), (0, .ref (u 0))]) (by rw [← h1, hcm]) ?_
                  refine z_iload K 0 dX3_pass_226 rfl ?_
                  refine z_if_lt K 239 dX3_pass_228 (by decide) (fun _ => ?_) (fun h => absurd (by decide) h)
                  refine z_iinc (lv' := [(4, .int (nI (to + 1))), (5, .int (-1)), (3, .int (nI v)), (2, .int (nI f)), (1, .ref q76), (0, .ref (u 0))]) (v := nI (to + 1)) K 1 dX3_pass_239 rfl (z_inc1 to) (by decide) rfl ?_
                  refine z_goto K 122 dX3_pass_242 (by decide) ?_
                  refine z_lv (lv' := [(4, .int (nI (to + 1))), (3, .int (nI v)), (2, .int (nI f)), (1, .ref q76), (0, .ref (u 0))]) [0, 2, 3, 4, 5] rfl ?_
                  rw [show (p2T MM PP BB MB AB PB n f v (up2 (p2V MM PP BB ((p1O MM BB MB AB (TB, sl) n).1) MB AB PB n f (p2F MM PP BB ((p1O MM BB MB AB (TB, sl) n).1) MB AB PB n (fun _ _ => false) f) v) f v true) (to + 1)) = (p2T MM PP BB MB AB PB n f v (up2 (p2V MM PP BB ((p1O MM BB MB AB (TB, sl) n).1) MB AB PB n f (p2F MM PP BB ((p1O MM BB MB AB (TB, sl) n).1) MB AB PB n (fun _ _ => false) f) v) f v true) to) from (by rw [p2T_succ, if_pos c138, if_pos (by rw [h1]; decide)])] at ihto
                  exact ihto
                · refine z_lvE (lv' := [(5, .int (nI j)), (4, .int (nI to)), (3, .int (nI v)), (2, .int (nI f)), (1, .ref q76), (0, .ref (u 0))]) (by rw [← h1, hcm]) ?_
                  refine z_iload K 0 dX3_pass_226 rfl ?_
                  refine z_if_lt K 239 dX3_pass_228 (by decide) (fun h => absurd h (nI_pos (by omega))) (fun _ => ?_)
                  refine z_aload_n K 4 dX3_pass_231 rfl ?_
                  refine z_iload K 0 dX3_pass_232 rfl ?_
                  refine z_aald (y := (r76 j)) K _ 3 j (ga (n := _) sw_len gr_o) rfl rfl (by omega) (by omega) (sm_ref_at (by omega)) dX3_pass_234 ?_
                  refine z_iload K 1 dX3_pass_235 rfl ?_
                  refine z_iconst (v := 1) K dX3_pass_237 (by decide) ?_
                  refine z_zastG (b := true) K 1 to rfl (ga (n := _) sw_len (gr_r (by omega))) rfl (by omega) (by omega) dX3_pass_238 (ws' := (simW cI cZ cQ cW u r n ss ((p1O MM BB MB AB (TB, sl) n).2) MM HH PP BB ((p1O MM BB MB AB (TB, sl) n).1) MB AB PB) ++ gridW cW cZ q76 20 6 r76 (up2 (p2T MM PP BB MB AB PB n f v (up2 (p2V MM PP BB ((p1O MM BB MB AB (TB, sl) n).1) MB AB PB n f (p2F MM PP BB ((p1O MM BB MB AB (TB, sl) n).1) MB AB PB n (fun _ _ => false) f) v) f v true) to) j to true)) ((sa sw_len).trans (congrArg _ (gr_set (by omega)))) ?_
                  refine z_iinc (lv' := [(4, .int (nI (to + 1))), (5, .int (nI j)), (3, .int (nI v)), (2, .int (nI f)), (1, .ref q76), (0, .ref (u 0))]) (v := nI (to + 1)) K 1 dX3_pass_239 rfl (z_inc1 to) (by decide) rfl ?_
                  refine z_goto K 122 dX3_pass_242 (by decide) ?_
                  refine z_lv (lv' := [(4, .int (nI (to + 1))), (3, .int (nI v)), (2, .int (nI f)), (1, .ref q76), (0, .ref (u 0))]) [0, 2, 3, 4, 5] rfl ?_
                  rw [show (p2T MM PP BB MB AB PB n f v (up2 (p2V MM PP BB ((p1O MM BB MB AB (TB, sl) n).1) MB AB PB n f (p2F MM PP BB ((p1O MM BB MB AB (TB, sl) n).1) MB AB PB n (fun _ _ => false) f) v) f v true) (to + 1)) = (up2 (p2T MM PP BB MB AB PB n f v (up2 (p2V MM PP BB ((p1O MM BB MB AB (TB, sl) n).1) MB AB PB n f (p2F MM PP BB ((p1O MM BB MB AB (TB, sl) n).1) MB AB PB n (fun _ _ => false) f) v) f v true) to) j to true) from (by rw [p2T_succ, if_pos c138, if_neg (by rw [h1]; exact nI_pos (by omega)), h1, ix_nI (by omega)])] at ihto
                  exact ihto
              · refine z_iconst (v := (-1)) K dX3_pass_157 (by decide) ?_
                refine z_istore (lv' := [(5, .int (-1)), (4, .int (nI to)), (3, .int (nI v)), (2, .int (nI f)), (1, .ref q76), (0, .ref (u 0))]) K dX3_pass_158 (by decide) rfl ?_
                refine z_aload_n K 5 dX3_pass_160 rfl ?_
                refine z_get (C := RX3) (T := TX3) (N := 9) (ci := 3) (v := .int (nI n)) K iX3 rfl 0 rfl 0 (by decide) (by decide +kernel) rfl rfl dX3_pass_161 ?_
                refine z_iconst (v := 1) K dX3_pass_164 (by decide) ?_
                refine z_isub K dX3_pass_165 ?_
                refine z_istore (lv' := [(6, .int ((nI n) - 1)), (5, .int (-1)), (4, .int (nI to)), (3, .int (nI v)), (2, .int (nI f)), (1, .ref q76), (0, .ref (u 0))]) K dX3_pass_166 (by decide) rfl ?_
                have hmf : MM f < 10 := hMM f (by omega)
                cases hmb : MB to (MM f)
                · refine z_lv (lv' := [(6, .int ((nI n) - 1)), (5, .int (-1)), (4, .int (nI to)), (3, .int (nI v)), (2, .int (nI f)), (1, .ref q76), (0, .ref (u 0))]) [0, 1, 2, 3, 4, 5, 6] rfl ?_
                  refine z_loop (wsf := fun _ => (simW cI cZ cQ cW u r n ss ((p1O MM BB MB AB (TB, sl) n).2) MM HH PP BB ((p1O MM BB MB AB (TB, sl) n).1) MB AB PB) ++ gridW cW cZ q76 20 6 r76 (p2T MM PP BB MB AB PB n f v (up2 (p2V MM PP BB ((p1O MM BB MB AB (TB, sl) n).1) MB AB PB n f (p2F MM PP BB ((p1O MM BB MB AB (TB, sl) n).1) MB AB PB n (fun _ _ => false) f) v) f v true) to)) (lvf := fun d => [(6, .int (gi (n - d))), (5, .int (cmD (chP MM PP BB MB AB f to) n d)), (4, .int (nI to)), (3, .int (nI v)), (2, .int (nI f)), (1, .ref q76), (0, .ref (u 0))]) n rfl (by rw [cmD_0, Nat.sub_zero, ← gi_sub]) ?_ (fun d hd ihd => ?_)
                  · refine z_iload K 0 dX3_pass_168 rfl ?_
                    refine z_if_lt K 226 dX3_pass_170 (by decide) (fun _ => ?_) (fun h => absurd (by rw [Nat.sub_self]; decide) h)
                    have hcm : cmS MM PP BB MB AB n f to = (cmD (chP MM PP BB MB AB f to) n n) := by unfold cmS; rw [if_pos c154, if_neg (by rw [hmb]; decide)]
                    rcases cmS_cases MM PP BB MB AB to (n := n) (f := f) (by omega) with h1 | ⟨j, hj, h1⟩
                    · refine z_lvE (lv' := [(6, .int (gi (n - n))), (5, .int (-1)), (4, .int (nI to)), (3, .int (nI v)), (2, .int (nI f)), (1, .ref q76), (0, .ref (u 0))]) (by rw [← h1, hcm]) ?_
                      refine z_iload K 1 dX3_pass_226 rfl ?_
                      refine z_if_lt K 239 dX3_pass_228 (by decide) (fun _ => ?_) (fun h => absurd (by decide) h)
                      refine z_iinc (lv' := [(4, .int (nI (to + 1))), (6, .int (gi (n - n))), (5, .int (-1)), (3, .int (nI v)), (2, .int (nI f)), (1, .ref q76), (0, .ref (u 0))]) (v := nI (to + 1)) K 2 dX3_pass_239 rfl (z_inc1 to) (by decide) rfl ?_
                      refine z_goto K 122 dX3_pass_242 (by decide) ?_
                      refine z_lv (lv' := [(4, .int (nI (to + 1))), (3, .int (nI v)), (2, .int (nI f)), (1, .ref q76), (0, .ref (u 0))]) [0, 3, 4, 5, 6] rfl ?_
                      rw [show (p2T MM PP BB MB AB PB n f v (up2 (p2V MM PP BB ((p1O MM BB MB AB (TB, sl) n).1) MB AB PB n f (p2F MM PP BB ((p1O MM BB MB AB (TB, sl) n).1) MB AB PB n (fun _ _ => false) f) v) f v true) (to + 1)) = (p2T MM PP BB MB AB PB n f v (up2 (p2V MM PP BB ((p1O MM BB MB AB (TB, sl) n).1) MB AB PB n f (p2F MM PP BB ((p1O MM BB MB AB (TB, sl) n).1) MB AB PB n (fun _ _ => false) f) v) f v true) to) from (by rw [p2T_succ, if_pos c138, if_pos (by rw [h1]; decide)])] at ihto
                      exact ihto
                    · refine z_lvE (lv' := [(6, .int (gi (n - n))), (5, .int (nI j)), (4, .int (nI to)), (3, .int (nI v)), (2, .int (nI f)), (1, .ref q76), (0, .ref (u 0))]) (by rw [← h1, hcm]) ?_
                      refine z_iload K 1 dX3_pass_226 rfl ?_
                      refine z_if_lt K 239 dX3_pass_228 (by decide) (fun h => absurd h (nI_pos (by omega))) (fun _ => ?_)
                      refine z_aload_n K 5 dX3_pass_231 rfl ?_
                      refine z_iload K 1 dX3_pass_232 rfl ?_
                      refine z_aald (y := (r76 j)) K _ 3 j (ga (n := _) sw_len gr_o) rfl rfl (by omega) (by omega) (sm_ref_at (by omega)) dX3_pass_234 ?_
                      refine z_iload K 2 dX3_pass_235 rfl ?_
                      refine z_iconst (v := 1) K dX3_pass_237 (by decide) ?_
                      refine z_zastG (b := true) K 1 to rfl (ga (n := _) sw_len (gr_r (by omega))) rfl (by omega) (by omega) dX3_pass_238 (ws' := (simW cI cZ cQ cW u r n ss ((p1O MM BB MB AB (TB, sl) n).2) MM HH PP BB ((p1O MM BB MB AB (TB, sl) n).1) MB AB PB) ++ gridW cW cZ q76 20 6 r76 (up2 (p2T MM PP BB MB AB PB n f v (up2 (p2V MM PP BB ((p1O MM BB MB AB (TB, sl) n).1) MB AB PB n f (p2F MM PP BB ((p1O MM BB MB AB (TB, sl) n).1) MB AB PB n (fun _ _ => false) f) v) f v true) to) j to true)) ((sa sw_len).trans (congrArg _ (gr_set (by omega)))) ?_
                      refine z_iinc (lv' := [(4, .int (nI (to + 1))), (6, .int (gi (n - n))), (5, .int (nI j)), (3, .int (nI v)), (2, .int (nI f)), (1, .ref q76), (0, .ref (u 0))]) (v := nI (to + 1)) K 2 dX3_pass_239 rfl (z_inc1 to) (by decide) rfl ?_
                      refine z_goto K 122 dX3_pass_242 (by decide) ?_
                      refine z_lv (lv' := [(4, .int (nI (to + 1))), (3, .int (nI v)), (2, .int (nI f)), (1, .ref q76), (0, .ref (u 0))]) [0, 3, 4, 5, 6] rfl ?_
                      rw [show (p2T MM PP BB MB AB PB n f v (up2 (p2V MM PP BB ((p1O MM BB MB AB (TB, sl) n).1) MB AB PB n f (p2F MM PP BB ((p1O MM BB MB AB (TB, sl) n).1) MB AB PB n (fun _ _ => false) f) v) f v true) (to + 1)) = (up2 (p2T MM PP BB MB AB PB n f v (up2 (p2V MM PP BB ((p1O MM BB MB AB (TB, sl) n).1) MB AB PB n f (p2F MM PP BB ((p1O MM BB MB AB (TB, sl) n).1) MB AB PB n (fun _ _ => false) f) v) f v true) to) j to true) from (by rw [p2T_succ, if_pos c138, if_neg (by rw [h1]; exact nI_pos (by omega)), h1, ix_nI (by omega)])] at ihto
                      exact ihto
                  · refine z_lvE (lv' := [(6, .int (nI (n - 1 - d))), (5, .int (cmD (chP MM PP BB MB AB f to) n d)), (4, .int (nI to)), (3, .int (nI v)), (2, .int (nI f)), (1, .ref q76), (0, .ref (u 0))]) (by rw [gi_at (show n - d = (n - 1 - d) + 1 by omega)]) ?_
                    refine z_iload K 0 dX3_pass_168 rfl ?_
                    refine z_if_lt K 226 dX3_pass_170 (by decide) (fun h => absurd h (nI_pos (by omega))) (fun _ => ?_)
                    refine z_aload_n K 6 dX3_pass_173 rfl ?_
                    refine z_get (C := RX3) (T := TX3) (N := 9) (ci := 3) (v := .ref (u 4)) K iX3 rfl 0 rfl 6 (by decide) (by decide +kernel) rfl rfl dX3_pass_174 ?_
                    refine z_iload K 2 dX3_pass_177 rfl ?_
                    refine z_aald (y := (r 3 to)) K 4 3 to rfl rfl rfl (by omega) (by omega) (sm_ref_at (by omega)) dX3_pass_179 ?_
                    refine z_aload_n K 6 dX3_pass_180 rfl ?_
                    refine z_get (C := RX3) (T := TX3) (N := 9) (ci := 3) (v := .ref (u 1)) K iX3 rfl 0 rfl 3 (by decide) (by decide +kernel) rfl rfl dX3_pass_181 ?_
                    refine z_iload_n K 4 dX3_pass_184 rfl ?_
                    refine z_aald (y := (r 0 f)) K 1 2 f rfl rfl rfl (by omega) (by omega) (sm_ref_at (by omega)) dX3_pass_185 ?_
                    refine z_iconst (v := 0) K dX3_pass_186 (by decide) ?_
                    refine z_ialdX (x := (nI (MM f))) K 0 0 rfl (by omega) (by omega) (gb (sw_F (by omega))) rfl dX3_pass_187 ?_
                    refine z_zald (x := (z_b (MB to (MM f)))) K _ 1 (MM f) (gb (sw_M (by omega))) rfl (by omega) (by omega) dX3_pass_188 rfl ?_
                    refine z_if_neB K 226 dX3_pass_189 (by decide) (fun h => absurd (hmb.symm.trans h) (by decide)) (fun _ => ?_)
                    refine z_aload_n K 6 dX3_pass_192 rfl ?_
                    refine z_get (C := RX3) (T := TX3) (N := 9) (ci := 3) (v := .ref (u 1)) K iX3 rfl 0 rfl 3 (by decide) (by decide +kernel) rfl rfl dX3_pass_193 ?_
                    refine z_iload K 0 dX3_pass_196 rfl ?_
                    refine z_aald (y := (r 0 (n - 1 - d))) K 1 2 (n - 1 - d) rfl rfl rfl (by omega) (by omega) (sm_ref_at (by omega)) dX3_pass_198 ?_
                    refine z_iconst (v := 2) K dX3_pass_199 (by decide) ?_
                    refine z_ialdX (x := (PP (n - 1 - d))) K 0 2 rfl (by omega) (by omega) (gb (sw_F (by omega))) rfl dX3_pass_200 ?_
                    refine z_iload_n K 4 dX3_pass_201 rfl ?_
                    refine z_icmp_ne K 220 dX3_pass_202 (by decide) (fun c202 => ?_) (fun c202 => ?_)
                    · refine z_iinc (lv' := [(6, .int (gi (n - (d + 1)))), (5, .int (cmD (chP MM PP BB MB AB f to) n d)), (4, .int (nI to)), (3, .int (nI v)), (2, .int (nI f)), (1, .ref q76), (0, .ref (u 0))]) (v := gi (n - (d + 1))) K 0 dX3_pass_220 rfl (by rw [show n - (d + 1) = n - 1 - d by omega]; exact gi_dec _) (by decide) rfl ?_
                      refine z_goto K 168 dX3_pass_223 (by decide) ?_
                      rw [show cmD (chP MM PP BB MB AB f to) n (d + 1) = (cmD (chP MM PP BB MB AB f to) n d) from (by rw [cmD_succ, if_neg (by simp [chP, c202])])] at ihd
                      exact ihd
                    · refine z_aload_n K 6 dX3_pass_205 rfl ?_
                      refine z_iload K 0 dX3_pass_206 rfl ?_
                      refine z_iload K 2 dX3_pass_208 rfl ?_
                      refine z_cV (st' := [.int (z_b (bnS MM BB MB AB (n - 1 - d) to 12))]) (rest := []) (C := RX3) (T := TX3) (N := 9) (q0 := 0) K (m_X3_isBanned l _ D cI cZ cQ cW u (n - 1 - d) to r n ss ((p1O MM BB MB AB (TB, sl) n).2) MM HH PP BB ((p1O MM BB MB AB (TB, sl) n).1) MB AB PB (hn) (hMM) (by omega) (by omega)) gX3_pass_X3_isBanned rfl 2 3 (by decide +kernel) rfl dX3_pass_210 (List.sublist_append_left _ _) rfl rfl ⟨by decide, by decide⟩ ⟨by decide, by decide⟩ rfl rfl rfl (Nat.le_of_ble_eq_true rfl) rfl ?_
                      refine z_if_neB K 220 dX3_pass_213 (by decide) (fun c213 => ?_) (fun c213 => ?_)
                      · refine z_iinc (lv' := [(6, .int (gi (n - (d + 1)))), (5, .int (cmD (chP MM PP BB MB AB f to) n d)), (4, .int (nI to)), (3, .int (nI v)), (2, .int (nI f)), (1, .ref q76), (0, .ref (u 0))]) (v := gi (n - (d + 1))) K 0 dX3_pass_220 rfl (by rw [show n - (d + 1) = n - 1 - d by omega]; exact gi_dec _) (by decide) rfl ?_
                        refine z_goto K 168 dX3_pass_223 (by decide) ?_
                        rw [show cmD (chP MM PP BB MB AB f to) n (d + 1) = (cmD (chP MM PP BB MB AB f to) n d) from (by rw [cmD_succ, if_neg (by simp [chP, c213])])] at ihd
                        exact ihd
                      · refine z_iload K 0 dX3_pass_216 rfl ?_
                        refine z_istore (lv' := [(5, .int (nI (n - 1 - d))), (6, .int (nI (n - 1 - d))), (4, .int (nI to)), (3, .int (nI v)), (2, .int (nI f)), (1, .ref q76), (0, .ref (u 0))]) K dX3_pass_218 (by decide) rfl ?_
                        refine z_iinc (lv' := [(6, .int (gi (n - (d + 1)))), (5, .int (nI (n - 1 - d))), (4, .int (nI to)), (3, .int (nI v)), (2, .int (nI f)), (1, .ref q76), (0, .ref (u 0))]) (v := gi (n - (d + 1))) K 1 dX3_pass_220 rfl (by rw [show n - (d + 1) = n - 1 - d by omega]; exact gi_dec _) (by decide) rfl ?_
                        refine z_goto K 168 dX3_pass_223 (by decide) ?_
                        rw [show cmD (chP MM PP BB MB AB f to) n (d + 1) = (nI (n - 1 - d)) from (by rw [cmD_succ, if_pos (by simp [chP, c202, c213])])] at ihd
                        exact ihd
                · refine z_lvE (lv' := [(6, .int (nI (n - 1))), (5, .int (-1)), (4, .int (nI to)), (3, .int (nI v)), (2, .int (nI f)), (1, .ref q76), (0, .ref (u 0))]) (by rw [gi_sub, gi_at (show n = (n - 1) + 1 by omega)]) ?_
                  refine z_iload K 0 dX3_pass_168 rfl ?_
                  refine z_if_lt K 226 dX3_pass_170 (by decide) (fun h => absurd h (nI_pos (by omega))) (fun _ => ?_)
                  refine z_aload_n K 6 dX3_pass_173 rfl ?_
                  refine z_get (C := RX3) (T := TX3) (N := 9) (ci := 3) (v := .ref (u 4)) K iX3 rfl 0 rfl 6 (by decide) (by decide +kernel) rfl rfl dX3_pass_174 ?_
                  refine z_iload K 2 dX3_pass_177 rfl ?_
                  refine z_aald (y := (r 3 to)) K 4 3 to rfl rfl rfl (by omega) (by omega) (sm_ref_at (by omega)) dX3_pass_179 ?_
                  refine z_aload_n K 6 dX3_pass_180 rfl ?_
                  refine z_get (C := RX3) (T := TX3) (N := 9) (ci := 3) (v := .ref (u 1)) K iX3 rfl 0 rfl 3 (by decide) (by decide +kernel) rfl rfl dX3_pass_181 ?_
                  refine z_iload_n K 4 dX3_pass_184 rfl ?_
                  refine z_aald (y := (r 0 f)) K 1 2 f rfl rfl rfl (by omega) (by omega) (sm_ref_at (by omega)) dX3_pass_185 ?_
                  refine z_iconst (v := 0) K dX3_pass_186 (by decide) ?_
                  refine z_ialdX (x := (nI (MM f))) K 0 0 rfl (by omega) (by omega) (gb (sw_F (by omega))) rfl dX3_pass_187 ?_
                  refine z_zald (x := (z_b (MB to (MM f)))) K _ 1 (MM f) (gb (sw_M (by omega))) rfl (by omega) (by omega) dX3_pass_188 rfl ?_
                  refine z_if_neB K 226 dX3_pass_189 (by decide) (fun _ => ?_) (fun h => absurd (hmb.symm.trans h) (by decide))
                  have hcm : cmS MM PP BB MB AB n f to = (-1) := by unfold cmS; rw [if_pos c154, if_pos hmb]
                  rcases cmS_cases MM PP BB MB AB to (n := n) (f := f) (by omega) with h1 | ⟨j, hj, h1⟩
                  · refine z_lvE (lv' := [(6, .int (nI (n - 1))), (5, .int (-1)), (4, .int (nI to)), (3, .int (nI v)), (2, .int (nI f)), (1, .ref q76), (0, .ref (u 0))]) (by rw [← h1, hcm]) ?_
                    refine z_iload K 1 dX3_pass_226 rfl ?_
                    refine z_if_lt K 239 dX3_pass_228 (by decide) (fun _ => ?_) (fun h => absurd (by decide) h)
                    refine z_iinc (lv' := [(4, .int (nI (to + 1))), (6, .int (nI (n - 1))), (5, .int (-1)), (3, .int (nI v)), (2, .int (nI f)), (1, .ref q76), (0, .ref (u 0))]) (v := nI (to + 1)) K 2 dX3_pass_239 rfl (z_inc1 to) (by decide) rfl ?_
                    refine z_goto K 122 dX3_pass_242 (by decide) ?_
                    refine z_lv (lv' := [(4, .int (nI (to + 1))), (3, .int (nI v)), (2, .int (nI f)), (1, .ref q76), (0, .ref (u 0))]) [0, 3, 4, 5, 6] rfl ?_
                    rw [show (p2T MM PP BB MB AB PB n f v (up2 (p2V MM PP BB ((p1O MM BB MB AB (TB, sl) n).1) MB AB PB n f (p2F MM PP BB ((p1O MM BB MB AB (TB, sl) n).1) MB AB PB n (fun _ _ => false) f) v) f v true) (to + 1)) = (p2T MM PP BB MB AB PB n f v (up2 (p2V MM PP BB ((p1O MM BB MB AB (TB, sl) n).1) MB AB PB n f (p2F MM PP BB ((p1O MM BB MB AB (TB, sl) n).1) MB AB PB n (fun _ _ => false) f) v) f v true) to) from (by rw [p2T_succ, if_pos c138, if_pos (by rw [h1]; decide)])] at ihto
                    exact ihto
                  · refine z_lvE (lv' := [(6, .int (nI (n - 1))), (5, .int (nI j)), (4, .int (nI to)), (3, .int (nI v)), (2, .int (nI f)), (1, .ref q76), (0, .ref (u 0))]) (by rw [← h1, hcm]) ?_
                    refine z_iload K 1 dX3_pass_226 rfl ?_
                    refine z_if_lt K 239 dX3_pass_228 (by decide) (fun h => absurd h (nI_pos (by omega))) (fun _ => ?_)
                    refine z_aload_n K 5 dX3_pass_231 rfl ?_
                    refine z_iload K 1 dX3_pass_232 rfl ?_
                    refine z_aald (y := (r76 j)) K _ 3 j (ga (n := _) sw_len gr_o) rfl rfl (by omega) (by omega) (sm_ref_at (by omega)) dX3_pass_234 ?_
                    refine z_iload K 2 dX3_pass_235 rfl ?_
                    refine z_iconst (v := 1) K dX3_pass_237 (by decide) ?_
                    refine z_zastG (b := true) K 1 to rfl (ga (n := _) sw_len (gr_r (by omega))) rfl (by omega) (by omega) dX3_pass_238 (ws' := (simW cI cZ cQ cW u r n ss ((p1O MM BB MB AB (TB, sl) n).2) MM HH PP BB ((p1O MM BB MB AB (TB, sl) n).1) MB AB PB) ++ gridW cW cZ q76 20 6 r76 (up2 (p2T MM PP BB MB AB PB n f v (up2 (p2V MM PP BB ((p1O MM BB MB AB (TB, sl) n).1) MB AB PB n f (p2F MM PP BB ((p1O MM BB MB AB (TB, sl) n).1) MB AB PB n (fun _ _ => false) f) v) f v true) to) j to true)) ((sa sw_len).trans (congrArg _ (gr_set (by omega)))) ?_
                    refine z_iinc (lv' := [(4, .int (nI (to + 1))), (6, .int (nI (n - 1))), (5, .int (nI j)), (3, .int (nI v)), (2, .int (nI f)), (1, .ref q76), (0, .ref (u 0))]) (v := nI (to + 1)) K 2 dX3_pass_239 rfl (z_inc1 to) (by decide) rfl ?_
                    refine z_goto K 122 dX3_pass_242 (by decide) ?_
                    refine z_lv (lv' := [(4, .int (nI (to + 1))), (3, .int (nI v)), (2, .int (nI f)), (1, .ref q76), (0, .ref (u 0))]) [0, 3, 4, 5, 6] rfl ?_
                    rw [show (p2T MM PP BB MB AB PB n f v (up2 (p2V MM PP BB ((p1O MM BB MB AB (TB, sl) n).1) MB AB PB n f (p2F MM PP BB ((p1O MM BB MB AB (TB, sl) n).1) MB AB PB n (fun _ _ => false) f) v) f v true) (to + 1)) = (up2 (p2T MM PP BB MB AB PB n f v (up2 (p2V MM PP BB ((p1O MM BB MB AB (TB, sl) n).1) MB AB PB n f (p2F MM PP BB ((p1O MM BB MB AB (TB, sl) n).1) MB AB PB n (fun _ _ => false) f) v) f v true) to) j to true) from (by rw [p2T_succ, if_pos c138, if_neg (by rw [h1]; exact nI_pos (by omega)), h1, ix_nI (by omega)])] at ihto
                    exact ihto
            · refine z_goto K 239 dX3_pass_141 (by decide) ?_
              refine z_iinc (lv' := [(4, .int (nI (to + 1))), (3, .int (nI v)), (2, .int (nI f)), (1, .ref q76), (0, .ref (u 0))]) (v := nI (to + 1)) K 0 dX3_pass_239 rfl (z_inc1 to) (by decide) rfl ?_
              refine z_goto K 122 dX3_pass_242 (by decide) ?_
              rw [show (p2T MM PP BB MB AB PB n f v (up2 (p2V MM PP BB ((p1O MM BB MB AB (TB, sl) n).1) MB AB PB n f (p2F MM PP BB ((p1O MM BB MB AB (TB, sl) n).1) MB AB PB n (fun _ _ => false) f) v) f v true) (to + 1)) = (p2T MM PP BB MB AB PB n f v (up2 (p2V MM PP BB ((p1O MM BB MB AB (TB, sl) n).1) MB AB PB n f (p2F MM PP BB ((p1O MM BB MB AB (TB, sl) n).1) MB AB PB n (fun _ _ => false) f) v) f v true) to) from (by rw [p2T_succ, if_neg (by rw [c138]; decide)])] at ihto
              exact ihto
        · refine z_goto K 245 dX3_pass_110 (by decide) ?_
          refine z_iinc (lv' := [(3, .int (nI (v + 1))), (2, .int (nI f)), (1, .ref q76), (0, .ref (u 0))]) (v := nI (v + 1)) K 0 dX3_pass_245 rfl (z_inc1 v) (by decide) rfl ?_
          refine z_goto K 93 dX3_pass_248 (by decide) ?_
          rw [show (p2V MM PP BB ((p1O MM BB MB AB (TB, sl) n).1) MB AB PB n f (p2F MM PP BB ((p1O MM BB MB AB (TB, sl) n).1) MB AB PB n (fun _ _ => false) f) (v + 1)) = (p2V MM PP BB ((p1O MM BB MB AB (TB, sl) n).1) MB AB PB n f (p2F MM PP BB ((p1O MM BB MB AB (TB, sl) n).1) MB AB PB n (fun _ _ => false) f) v) from (by rw [p2V_succ, if_neg (by rw [c107]; decide)])] at ihv
          exact ihv
  · refine z_iload_n K 0 dX3_pass_2 rfl ?_
    refine z_aload_n K 1 dX3_pass_3 rfl ?_
    refine z_get (C := RX3) (T := TX3) (N := 9) (ci := 3) (v := .int (nI n)) K iX3 rfl 0 rfl 0 (by decide) (by decide +kernel) rfl rfl dX3_pass_4 ?_
    refine z_cmpN K 72 f n dX3_pass_7 (by decide) rfl rfl (by omega) (by omega) (fun h => absurd h (by omega)) (fun _ => ?_)
    refine z_iconst (v := 0) K dX3_pass_10 (by decide) ?_
    refine z_istore_n (lv' := [(2, .int 0), (1, .int (nI f)), (0, .ref (u 0))]) K dX3_pass_11 (by decide) rfl ?_
    refine z_loop (wsf := fun v => simW cI cZ cQ cW u r n ss ((p1I MM BB MB AB f (p1O MM BB MB AB (TB, sl) f) v).2) MM HH PP BB ((p1I MM BB MB AB f (p1O MM BB MB AB (TB, sl) f) v).1) MB AB PB) (lvf := fun v => [(2, .int (nI v)), (1, .int (nI f)), (0, .ref (u 0))]) 6 (by first | (simp only [p1I_0]; done) | (simp only [p1I_0]; rfl) | rfl) (by first | (simp only [p1I_0]; done) | (simp only [p1I_0]; rfl) | rfl) ?_ (fun v hv ihv => ?_)
    · refine z_iload_n K 0 dX3_pass_12 rfl ?_
      refine z_bipush (v := 6) K dX3_pass_13 (by decide) ?_
      refine z_cmpN K 66 6 6 dX3_pass_15 (by decide) rfl rfl (by omega) (by omega) (fun _ => ?_) (fun h => absurd h (by omega))
      refine z_iinc (lv' := [(1, .int (nI (f + 1))), (2, .int (nI 6)), (0, .ref (u 0))]) (v := nI (f + 1)) K 1 dX3_pass_66 rfl (z_inc1 f) (by decide) rfl ?_
      refine z_goto K 2 dX3_pass_69 (by decide) ?_
      refine z_lv (lv' := [(1, .int (nI (f + 1))), (0, .ref (u 0))]) [0, 2] rfl ?_
      rw [show ((p1O MM BB MB AB (TB, sl) (f + 1)).2) = ((p1I MM BB MB AB f (p1O MM BB MB AB (TB, sl) f) 6).2) from (by first | (simp only [p1I_succ, p1O_succ, p2F_succ, Bool.false_eq_true, if_false, if_true, ↓reduceIte]; done) | rfl | simp [p1I_succ, p1O_succ, p2F_succ])] at ihf
      rw [show ((p1O MM BB MB AB (TB, sl) (f + 1)).1) = ((p1I MM BB MB AB f (p1O MM BB MB AB (TB, sl) f) 6).1) from (by first | (simp only [p1I_succ, p1O_succ, p2F_succ, Bool.false_eq_true, if_false, if_true, ↓reduceIte]; done) | rfl | simp [p1I_succ, p1O_succ, p2F_succ])] at ihf
      exact ihf
    · refine z_iload_n K 0 dX3_pass_12 rfl ?_
      refine z_bipush (v := 6) K dX3_pass_13 (by decide) ?_
      refine z_cmpN K 66 v 6 dX3_pass_15 (by decide) rfl rfl (by omega) (by omega) (fun h => absurd h (by omega)) (fun _ => ?_)
      refine z_aload_n K 2 dX3_pass_18 rfl ?_
      refine z_get (C := RX3) (T := TX3) (N := 9) (ci := 3) (v := .ref (u 3)) K iX3 rfl 0 rfl 5 (by decide) (by decide +kernel) rfl rfl dX3_pass_19 ?_
      refine z_iload_n K 1 dX3_pass_22 rfl ?_
      refine z_aald (y := (r 2 f)) K 3 3 f rfl rfl rfl (by omega) (by omega) (sm_ref_at (by omega)) dX3_pass_23 ?_
      refine z_iload_n K 0 dX3_pass_24 rfl ?_
      refine z_zald (x := (z_b (((p1I MM BB MB AB f (p1O MM BB MB AB (TB, sl) f) v).1) f v))) K _ 1 v (sw_O (by omega)) rfl (by omega) (by omega) dX3_pass_25 rfl ?_
      refine z_if_eqB K 60 dX3_pass_26 (by decide) (fun c26 => ?_) (fun c26 => ?_)
      · refine z_iinc (lv' := [(2, .int (nI (v + 1))), (1, .int (nI f)), (0, .ref (u 0))]) (v := nI (v + 1)) K 0 dX3_pass_60 rfl (z_inc1 v) (by decide) rfl ?_
        refine z_goto K 12 dX3_pass_63 (by decide) ?_
        rw [show ((p1I MM BB MB AB f (p1O MM BB MB AB (TB, sl) f) (v + 1)).2) = ((p1I MM BB MB AB f (p1O MM BB MB AB (TB, sl) f) v).2) from (by first | (simp only [p1I_succ, p1O_succ, p2F_succ, c26, Bool.false_eq_true, if_false, if_true, ↓reduceIte]; done) | rfl | simp [p1I_succ, p1O_succ, p2F_succ, c26])] at ihv
        rw [show ((p1I MM BB MB AB f (p1O MM BB MB AB (TB, sl) f) (v + 1)).1) = ((p1I MM BB MB AB f (p1O MM BB MB AB (TB, sl) f) v).1) from (by first | (simp only [p1I_succ, p1O_succ, p2F_succ, c26, Bool.false_eq_true, if_false, if_true, ↓reduceIte]; done) | rfl | simp [p1I_succ, p1O_succ, p2F_succ, c26])] at ihv
        exact ihv
      · refine z_aload_n K 2 dX3_pass_29 rfl ?_
        refine z_iload_n K 1 dX3_pass_30 rfl ?_
        refine z_iload_n K 0 dX3_pass_31 rfl ?_
        refine z_cV (st' := [.int (z_b (bnS MM BB MB AB f v 12))]) (rest := []) (C := RX3) (T := TX3) (N := 9) (q0 := 0) K (m_X3_isBanned l _ D cI cZ cQ cW u f v r n ss ((p1I MM BB MB AB f (p1O MM BB MB AB (TB, sl) f) v).2) MM HH PP BB ((p1I MM BB MB AB f (p1O MM BB MB AB (TB, sl) f) v).1) MB AB PB (hn) (hMM) (by omega) (by omega)) gX3_pass_X3_isBanned rfl 2 3 (by decide +kernel) rfl dX3_pass_32 (List.Sublist.refl _) rfl rfl ⟨by decide, by decide⟩ ⟨by decide, by decide⟩ rfl rfl rfl (Nat.le_of_ble_eq_true rfl) rfl ?_
        refine z_if_neB K 41 dX3_pass_35 (by decide) (fun c35 => ?_) (fun c35 => ?_)
        · refine z_aload_n K 2 dX3_pass_41 rfl ?_
          refine z_get (C := RX3) (T := TX3) (N := 9) (ci := 3) (v := .ref (u 3)) K iX3 rfl 0 rfl 5 (by decide) (by decide +kernel) rfl rfl dX3_pass_42 ?_
          refine z_iload_n K 1 dX3_pass_45 rfl ?_
          refine z_aald (y := (r 2 f)) K 3 3 f rfl rfl rfl (by omega) (by omega) (sm_ref_at (by omega)) dX3_pass_46 ?_
          refine z_iload_n K 0 dX3_pass_47 rfl ?_
          refine z_iconst (v := 0) K dX3_pass_48 (by decide) ?_
          refine z_zastG (b := false) K 1 v rfl (sw_O (by omega)) rfl (by omega) (by omega) dX3_pass_49 (ws' := simW cI cZ cQ cW u r n ss ((p1I MM BB MB AB f (p1O MM BB MB AB (TB, sl) f) v).2) MM HH PP BB (up2 ((p1I MM BB MB AB f (p1O MM BB MB AB (TB, sl) f) v).1) f v false) MB AB PB) (ss_O (by omega)) ?_
          refine z_aload_n K 2 dX3_pass_50 rfl ?_
          refine z_dup K dX3_pass_51 rfl ?_
          refine z_get (C := RX3) (T := TX3) (N := 9) (ci := 3) (v := .int ((p1I MM BB MB AB f (p1O MM BB MB AB (TB, sl) f) v).2)) K iX3 rfl 0 rfl 2 (by decide) (by decide +kernel) rfl rfl dX3_pass_52 ?_
          refine z_iconst (v := 1) K dX3_pass_55 (by decide) ?_
          refine z_iadd K dX3_pass_56 ?_
          refine z_putG (C := RX3) (T := TX3) (N := 9) (ci := 3) (q0 := 0) K iX3 rfl tyX3 tyX3_ok nmX3 rfl 2 (by decide) (by decide +kernel) rfl rfl rfl rfl (Nat.le_of_ble_eq_true rfl) (ws' := simW cI cZ cQ cW u r n ss ((p1I MM BB MB AB f (p1O MM BB MB AB (TB, sl) f) v).2 + 1) MM HH PP BB (up2 ((p1I MM BB MB AB f (p1O MM BB MB AB (TB, sl) f) v).1) f v false) MB AB PB) rfl dX3_pass_57 ?_
          refine z_iinc (lv' := [(2, .int (nI (v + 1))), (1, .int (nI f)), (0, .ref (u 0))]) (v := nI (v + 1)) K 0 dX3_pass_60 rfl (z_inc1 v) (by decide) rfl ?_
          refine z_goto K 12 dX3_pass_63 (by decide) ?_
          rw [show ((p1I MM BB MB AB f (p1O MM BB MB AB (TB, sl) f) (v + 1)).2) = ((p1I MM BB MB AB f (p1O MM BB MB AB (TB, sl) f) v).2 + 1) from (by first | (simp only [p1I_succ, p1O_succ, p2F_succ, c26, c35, Bool.false_eq_true, if_false, if_true, ↓reduceIte]; done) | rfl | simp [p1I_succ, p1O_succ, p2F_succ, c26, c35])] at ihv
          rw [show ((p1I MM BB MB AB f (p1O MM BB MB AB (TB, sl) f) (v + 1)).1) = (up2 ((p1I MM BB MB AB f (p1O MM BB MB AB (TB, sl) f) v).1) f v false) from (by first | (simp only [p1I_succ, p1O_succ, p2F_succ, c26, c35, Bool.false_eq_true, if_false, if_true, ↓reduceIte]; done) | rfl | simp [p1I_succ, p1O_succ, p2F_succ, c26, c35])] at ihv
          exact ihv
        · refine z_goto K 60 dX3_pass_38 (by decide) ?_
          refine z_iinc (lv' := [(2, .int (nI (v + 1))), (1, .int (nI f)), (0, .ref (u 0))]) (v := nI (v + 1)) K 0 dX3_pass_60 rfl (z_inc1 v) (by decide) rfl ?_
          refine z_goto K 12 dX3_pass_63 (by decide) ?_
          rw [show ((p1I MM BB MB AB f (p1O MM BB MB AB (TB, sl) f) (v + 1)).2) = ((p1I MM BB MB AB f (p1O MM BB MB AB (TB, sl) f) v).2) from (by first | (simp only [p1I_succ, p1O_succ, p2F_succ, c26, c35, Bool.false_eq_true, if_false, if_true, ↓reduceIte]; done) | rfl | simp [p1I_succ, p1O_succ, p2F_succ, c26, c35])] at ihv
          rw [show ((p1I MM BB MB AB f (p1O MM BB MB AB (TB, sl) f) (v + 1)).1) = ((p1I MM BB MB AB f (p1O MM BB MB AB (TB, sl) f) v).1) from (by first | (simp only [p1I_succ, p1O_succ, p2F_succ, c26, c35, Bool.false_eq_true, if_false, if_true, ↓reduceIte]; done) | rfl | simp [p1I_succ, p1O_succ, p2F_succ, c26, c35])] at ihv
          exact ihv
