theorem dL_below_0 : decode cL_below 0 = .ok (.iload_n 0, 1) := by decide +kernel
theorem dL_below_1 : decode cL_below 1 = .ok (.ldc 7, 2) := by decide +kernel
theorem dL_below_3 : decode cL_below 3 = .ok (.iand, 1) := by decide +kernel
theorem dL_below_4 : decode cL_below 4 = .ok (.iload_n 1, 1) := by decide +kernel
theorem dL_below_5 : decode cL_below 5 = .ok (.irem, 1) := by decide +kernel
theorem dL_below_6 : decode cL_below 6 = .ok (.ireturn, 1) := by decide +kernel
theorem dL_cell_0 : decode cL_cell 0 = .ok (.iload_n 1, 1) := by decide +kernel
theorem dL_cell_1 : decode cL_cell 1 = .ok (.aload_n 0, 1) := by decide +kernel
theorem dL_cell_2 : decode cL_cell 2 = .ok (.arraylength, 1) := by decide +kernel
theorem dL_cell_3 : decode cL_cell 3 = .ok (.if_icmp .ge 9, 3) := by decide +kernel
theorem dL_cell_6 : decode cL_cell 6 = .ok (.aload_n 0, 1) := by decide +kernel
theorem dL_cell_7 : decode cL_cell 7 = .ok (.iload_n 1, 1) := by decide +kernel
theorem dL_cell_8 : decode cL_cell 8 = .ok (.iaload, 1) := by decide +kernel
theorem dL_cell_9 : decode cL_cell 9 = .ok (.goto 9, 3) := by decide +kernel
theorem dL_cell_12 : decode cL_cell 12 = .ok (.ldc 8, 2) := by decide +kernel
theorem dL_cell_14 : decode cL_cell 14 = .ok (.iload_n 1, 1) := by decide +kernel
theorem dL_cell_15 : decode cL_cell 15 = .ok (.iconst 3, 1) := by decide +kernel
theorem dL_cell_16 : decode cL_cell 16 = .ok (.iadd, 1) := by decide +kernel
theorem dL_cell_17 : decode cL_cell 17 = .ok (.imul, 1) := by decide +kernel
theorem dL_cell_18 : decode cL_cell 18 = .ok (.ireturn, 1) := by decide +kernel
set_option maxRecDepth 20000 in
theorem ggL_act_L_below : GoodIn wsL_act wsL_below := goodIn_r _ [19, 20] (by decide +kernel) (by decide +kernel)
set_option maxRecDepth 20000 in
theorem gL_act_L_below : GoodIn wsL_act (va_wsS RL 15 yL_below wsL_below) := goodIn_app (goodIn_of _ (by decide +kernel)) ggL_act_L_below
set_option maxRecDepth 20000 in
theorem ggL_act_X2_addFable : GoodIn wsL_act wsX2_addFable := goodIn_ca (goodIn_ca (goodIn_r _ [25, 26, 27, 28, 24, 29, 30, 31, 32, 33, 34, 35, 36, 37, 38, 39, 40, 41, 42, 43, 44, 45, 46, 47, 48, 49, 50, 51, 52, 53, 54, 55, 56, 228, 229, 230, 231, 232, 233, 234, 235, 236, 237, 238] (by decide +kernel) (by decide +kernel)) (goodIn_sub (fun _ h => List.mem_cons_of_mem _ (List.mem_append_left _ (List.mem_append_left _ (List.mem_append_right _ h)))) (by decide +kernel))) (goodIn_sub (fun _ h => List.mem_cons_of_mem _ (List.mem_append_left _ (List.mem_append_right _ h))) (by decide +kernel))
set_option maxRecDepth 20000 in
theorem gL_act_X2_addFable : GoodIn wsL_act (wsV RL 29 RX2 yX2_addFable wsX2_addFable) := goodIn_app (goodIn_of _ (by decide +kernel)) ggL_act_X2_addFable
set_option maxRecDepth 20000 in
theorem ggL_act_X3_hasVariant : GoodIn wsL_act wsX3_hasVariant := goodIn_r _ [61, 62, 63, 219, 220, 221, 222, 223, 224, 225, 226, 227] (by decide +kernel) (by decide +kernel)
set_option maxRecDepth 20000 in
theorem gL_act_X3_hasVariant : GoodIn wsL_act (wsV RL 35 RX3 yX3_hasVariant wsX3_hasVariant) := goodIn_app (goodIn_of _ (by decide +kernel)) ggL_act_X3_hasVariant
set_option maxRecDepth 20000 in
theorem ggL_act_X2_addBeast : GoodIn wsL_act wsX2_addBeast := goodIn_ca (goodIn_ca (goodIn_r _ [67, 42, 43, 26, 68, 69, 70, 71, 72, 24, 73, 30, 31, 44, 32, 33, 34, 74, 75, 76, 77, 78, 79, 80, 81, 82, 83, 84, 85, 86, 228, 229, 230, 231, 232, 233, 234, 235, 236, 237, 238] (by decide +kernel) (by decide +kernel)) (goodIn_sub (fun _ h => List.mem_cons_of_mem _ (List.mem_append_left _ (List.mem_append_right _ h))) (by decide +kernel))) (goodIn_sub (fun _ h => List.mem_cons_of_mem _ (List.mem_append_left _ (List.mem_append_left _ (List.mem_append_right _ h)))) (by decide +kernel))
set_option maxRecDepth 20000 in
theorem gL_act_X2_addBeast : GoodIn wsL_act (wsV RL 39 RX2 yX2_addBeast wsX2_addBeast) := goodIn_app (goodIn_of _ (by decide +kernel)) ggL_act_X2_addBeast
set_option maxRecDepth 20000 in
theorem ggL_act_X3_beastsOf : GoodIn wsL_act wsX3_beastsOf := goodIn_r _ [90, 91, 219, 220, 221, 222, 223, 224, 225, 226, 227] (by decide +kernel) (by decide +kernel)
set_option maxRecDepth 20000 in
theorem gL_act_X3_beastsOf : GoodIn wsL_act (wsV RL 42 RX3 yX3_beastsOf wsX3_beastsOf) := goodIn_app (goodIn_of _ (by decide +kernel)) ggL_act_X3_beastsOf
set_option maxRecDepth 20000 in
theorem ggL_act_X2_addVariant : GoodIn wsL_act wsX2_addVariant := goodIn_ca (goodIn_ca (goodIn_r _ [95, 42, 43, 26, 68, 96, 70, 71, 72, 24, 73, 30, 31, 44, 32, 33, 34, 35, 36, 37, 38, 39, 40, 41, 74, 75, 76, 97, 98, 99, 45, 46, 47, 48, 49, 50, 51, 52, 53, 54, 55, 56, 228, 229, 230, 231, 232, 233, 234, 235, 236, 237, 238] (by decide +kernel) (by decide +kernel)) (goodIn_sub (fun _ h => List.mem_cons_of_mem _ (List.mem_append_left _ (List.mem_append_right _ h))) (by decide +kernel))) (goodIn_sub (fun _ h => List.mem_cons_of_mem _ (List.mem_append_left _ (List.mem_append_left _ (List.mem_append_right _ h)))) (by decide +kernel))
set_option maxRecDepth 20000 in
theorem gL_act_X2_addVariant : GoodIn wsL_act (wsV RL 52 RX2 yX2_addVariant wsX2_addVariant) := goodIn_app (goodIn_of _ (by decide +kernel)) ggL_act_X2_addVariant
set_option maxRecDepth 20000 in
theorem ggL_act_X2_turnPass : GoodIn wsL_act wsX2_turnPass := goodIn_ca (goodIn_ca (goodIn_r _ [103, 104, 105, 106, 107, 35, 36, 24, 37, 30, 31, 108, 109, 110, 111, 112, 113, 98, 99, 74, 75, 76, 228, 229, 230, 231, 239, 240, 241, 242, 243, 244, 245] (by decide +kernel) (by decide +kernel)) (goodIn_sub (fun _ h => List.mem_cons_of_mem _ (List.mem_append_right _ h)) (by decide +kernel))) (goodIn_sub (fun _ h => List.mem_cons_of_mem _ (List.mem_append_left _ (List.mem_append_left _ (List.mem_append_right _ h)))) (by decide +kernel))
set_option maxRecDepth 20000 in
theorem gL_act_X2_turnPass : GoodIn wsL_act (wsV RL 59 RX2 yX2_turnPass wsX2_turnPass) := goodIn_app (goodIn_of _ (by decide +kernel)) ggL_act_X2_turnPass
set_option maxRecDepth 20000 in
theorem ggL_act_X2_turnMoral : GoodIn wsL_act wsX2_turnMoral := goodIn_ca (goodIn_r _ [117, 106, 118, 35, 36, 24, 37, 30, 31, 27, 28, 29, 97, 98, 99, 74, 75, 76, 228, 229, 230, 231, 239, 240, 241, 242, 243, 244, 245] (by decide +kernel) (by decide +kernel)) (goodIn_sub (fun _ h => List.mem_cons_of_mem _ (List.mem_append_left _ (List.mem_append_left _ (List.mem_append_right _ h)))) (by decide +kernel))
set_option maxRecDepth 20000 in
theorem gL_act_X2_turnMoral : GoodIn wsL_act (wsV RL 66 RX2 yX2_turnMoral wsX2_turnMoral) := goodIn_app (goodIn_of _ (by decide +kernel)) ggL_act_X2_turnMoral
set_option maxRecDepth 20000 in
theorem ggL_act_X2_turnBeast : GoodIn wsL_act wsX2_turnBeast := goodIn_ca (goodIn_r _ [122, 106, 123, 35, 36, 24, 37, 30, 31, 32, 33, 34, 97, 98, 99, 74, 75, 76, 228, 229, 230, 231, 239, 240, 241, 242, 243, 244, 245] (by decide +kernel) (by decide +kernel)) (goodIn_sub (fun _ h => List.mem_cons_of_mem _ (List.mem_append_left _ (List.mem_append_left _ (List.mem_append_right _ h)))) (by decide +kernel))
set_option maxRecDepth 20000 in
theorem gL_act_X2_turnBeast : GoodIn wsL_act (wsV RL 72 RX2 yX2_turnBeast wsX2_turnBeast) := goodIn_app (goodIn_of _ (by decide +kernel)) ggL_act_X2_turnBeast
set_option maxRecDepth 20000 in
theorem ggL_act_X3_isBanned : GoodIn wsL_act wsX3_isBanned := goodIn_r _ [127, 128, 63, 91, 129, 219, 220, 221, 222, 223, 224, 225, 226, 227] (by decide +kernel) (by decide +kernel)
set_option maxRecDepth 20000 in
theorem gL_act_X3_isBanned : GoodIn wsL_act (wsV RL 78 RX3 yX3_isBanned wsX3_isBanned) := goodIn_app (goodIn_of _ (by decide +kernel)) ggL_act_X3_isBanned
set_option maxRecDepth 20000 in
theorem ggL_act_X2_tell : GoodIn wsL_act wsX2_tell := goodIn_ca (goodIn_ca (goodIn_r _ [133, 42, 43, 106, 134, 26, 70, 71, 72, 24, 73, 30, 31, 44, 35, 36, 37, 74, 75, 76, 135, 136, 137, 111, 138, 139, 140, 141, 142, 143, 144, 145, 146, 147, 78, 79, 80, 81, 82, 83, 84, 85, 86, 228, 229, 230, 231, 239, 240, 241, 242, 243, 244, 245, 232, 233, 234, 235, 236, 237, 238] (by decide +kernel) (by decide +kernel)) (goodIn_sub (fun _ h => List.mem_cons_of_mem _ (List.mem_append_left _ (List.mem_append_right _ h))) (by decide +kernel))) (goodIn_sub (fun _ h => List.mem_cons_of_mem _ (List.mem_append_left _ (List.mem_append_left _ (List.mem_append_right _ h)))) (by decide +kernel))
set_option maxRecDepth 20000 in
theorem gL_act_X2_tell : GoodIn wsL_act (wsV RL 81 RX2 yX2_tell wsX2_tell) := goodIn_app (goodIn_of _ (by decide +kernel)) ggL_act_X2_tell
set_option maxRecDepth 20000 in
theorem ggL_act_X3_valleys : GoodIn wsL_act wsX3_valleys := goodIn_r _ [151, 152, 219, 220, 221, 222, 223, 224, 225, 226, 227] (by decide +kernel) (by decide +kernel)
set_option maxRecDepth 20000 in
theorem gL_act_X3_valleys : GoodIn wsL_act (wsV RL 84 RX3 yX3_valleys wsX3_valleys) := goodIn_app (goodIn_of _ (by decide +kernel)) ggL_act_X3_valleys
set_option maxRecDepth 20000 in
theorem ggL_act_X2_forget : GoodIn wsL_act wsX2_forget := goodIn_ca (goodIn_ca (goodIn_r _ [156, 42, 43, 106, 134, 70, 71, 72, 24, 73, 30, 31, 26, 44, 35, 36, 37, 74, 75, 76, 97, 98, 99, 143, 144, 145, 111, 146, 147, 78, 79, 80, 81, 82, 83, 84, 85, 86, 228, 229, 230, 231, 239, 240, 241, 242, 243, 244, 245, 232, 233, 234, 235, 236, 237, 238] (by decide +kernel) (by decide +kernel)) (goodIn_sub (fun _ h => List.mem_cons_of_mem _ (List.mem_append_left _ (List.mem_append_right _ h))) (by decide +kernel))) (goodIn_sub (fun _ h => List.mem_cons_of_mem _ (List.mem_append_left _ (List.mem_append_left _ (List.mem_append_right _ h)))) (by decide +kernel))
set_option maxRecDepth 20000 in
theorem gL_act_X2_forget : GoodIn wsL_act (wsV RL 87 RX2 yX2_forget wsX2_forget) := goodIn_app (goodIn_of _ (by decide +kernel)) ggL_act_X2_forget
set_option maxRecDepth 20000 in
theorem ggL_act_X2_passSeasons : GoodIn wsL_act wsX2_passSeasons := goodIn_ca (goodIn_r _ [160, 106, 26, 161, 162, 163, 24, 164, 104, 105, 165, 166, 167, 111, 168, 169, 170, 171, 172, 173, 174, 175, 136, 137, 138, 139, 140, 141, 142, 75, 76, 176, 177, 178, 179, 180, 147, 181, 78, 79, 80, 81, 82, 83, 84, 85, 86, 182, 183, 184, 185, 186, 187, 188, 189, 113, 190, 191, 192, 193, 194, 195, 196, 197, 198, 199, 48, 200, 50, 143, 144, 145, 146, 228, 229, 230, 231, 239, 240, 241, 242, 243, 244, 245, 232, 233, 234, 235, 236, 237, 238] (by decide +kernel) (by decide +kernel)) (goodIn_sub (fun _ h => List.mem_cons_of_mem _ (List.mem_append_right _ h)) (by decide +kernel))
set_option maxRecDepth 20000 in
theorem gL_act_X2_passSeasons : GoodIn wsL_act (wsV RL 90 RX2 yX2_passSeasons wsX2_passSeasons) := goodIn_app (goodIn_of _ (by decide +kernel)) ggL_act_X2_passSeasons
set_option maxRecDepth 20000 in
theorem ggL_act_X3_behind : GoodIn wsL_act wsX3_behind := goodIn_r _ [204, 205, 206, 207, 60, 208, 62, 152, 209, 210, 5, 211, 128, 63, 212, 213, 125, 126, 127, 91, 129, 219, 220, 221, 222, 223, 224, 225, 226, 227] (by decide +kernel) (by decide +kernel)
set_option maxRecDepth 20000 in
theorem gL_act_X3_behind : GoodIn wsL_act (wsV RL 93 RX3 yX3_behind wsX3_behind) := goodIn_app (goodIn_of _ (by decide +kernel)) ggL_act_X3_behind
set_option maxRecDepth 20000 in
theorem ggL_act_X3_tellings : GoodIn wsL_act wsX3_tellings := goodIn_r _ [217, 62, 218, 149, 150, 60, 151, 152, 219, 220, 221, 222, 223, 224, 225, 226, 227] (by decide +kernel) (by decide +kernel)
set_option maxRecDepth 20000 in
theorem gL_act_X3_tellings : GoodIn wsL_act (wsV RL 97 RX3 yX3_tellings wsX3_tellings) := goodIn_app (goodIn_of _ (by decide +kernel)) ggL_act_X3_tellings
theorem dL_act_0 : decode cL_act 0 = .ok (.aload_n 1, 1) := by decide +kernel
theorem dL_act_1 : decode cL_act 1 = .ok (.getfield 9, 3) := by decide +kernel
theorem dL_act_4 : decode cL_act 4 = .ok (.istore_n 3, 1) := by decide +kernel
theorem dL_act_5 : decode cL_act 5 = .ok (.iload_n 2, 1) := by decide +kernel
theorem dL_act_6 : decode cL_act 6 = .ok (.iconst 1, 1) := by decide +kernel
theorem dL_act_7 : decode cL_act 7 = .ok (.ishr, 1) := by decide +kernel
theorem dL_act_8 : decode cL_act 8 = .ok (.bipush 6, 2) := by decide +kernel
theorem dL_act_10 : decode cL_act 10 = .ok (.invokestatic 15, 3) := by decide +kernel
theorem dL_act_13 : decode cL_act 13 = .ok (.istore 4, 2) := by decide +kernel
theorem dL_act_15 : decode cL_act 15 = .ok (.iload_n 2, 1) := by decide +kernel
theorem dL_act_16 : decode cL_act 16 = .ok (.iconst 3, 1) := by decide +kernel
theorem dL_act_17 : decode cL_act 17 = .ok (.ishr, 1) := by decide +kernel
theorem dL_act_18 : decode cL_act 18 = .ok (.bipush 12, 2) := by decide +kernel
theorem dL_act_20 : decode cL_act 20 = .ok (.invokestatic 15, 3) := by decide +kernel
theorem dL_act_23 : decode cL_act 23 = .ok (.istore 5, 2) := by decide +kernel
theorem dL_act_25 : decode cL_act 25 = .ok (.iload_n 2, 1) := by decide +kernel
theorem dL_act_26 : decode cL_act 26 = .ok (.bipush 9, 2) := by decide +kernel
theorem dL_act_28 : decode cL_act 28 = .ok (.ishr, 1) := by decide +kernel
theorem dL_act_29 : decode cL_act 29 = .ok (.bipush 20, 2) := by decide +kernel
theorem dL_act_31 : decode cL_act 31 = .ok (.invokestatic 15, 3) := by decide +kernel
theorem dL_act_34 : decode cL_act 34 = .ok (.istore 6, 2) := by decide +kernel
theorem dL_act_36 : decode cL_act 36 = .ok (.iload_n 3, 1) := by decide +kernel
theorem dL_act_37 : decode cL_act 37 = .ok (.ifCond .eq 9, 3) := by decide +kernel
theorem dL_act_40 : decode cL_act 40 = .ok (.iload 6, 2) := by decide +kernel
theorem dL_act_42 : decode cL_act 42 = .ok (.iconst 2, 1) := by decide +kernel
theorem dL_act_43 : decode cL_act 43 = .ok (.if_icmp .ge 96, 3) := by decide +kernel
theorem dL_act_46 : decode cL_act 46 = .ok (.iload_n 3, 1) := by decide +kernel
theorem dL_act_47 : decode cL_act 47 = .ok (.bipush 20, 2) := by decide +kernel
theorem dL_act_49 : decode cL_act 49 = .ok (.if_icmp .ne 5, 3) := by decide +kernel
theorem dL_act_52 : decode cL_act 52 = .ok (.iconst 1, 1) := by decide +kernel
theorem dL_act_53 : decode cL_act 53 = .ok (.ireturn, 1) := by decide +kernel
theorem dL_act_54 : decode cL_act 54 = .ok (.aload_n 1, 1) := by decide +kernel
theorem dL_act_55 : decode cL_act 55 = .ok (.getfield 21, 3) := by decide +kernel
theorem dL_act_58 : decode cL_act 58 = .ok (.iload_n 3, 1) := by decide +kernel
theorem dL_act_59 : decode cL_act 59 = .ok (.iconst 3, 1) := by decide +kernel
theorem dL_act_60 : decode cL_act 60 = .ok (.newarray .int, 2) := by decide +kernel
theorem dL_act_62 : decode cL_act 62 = .ok (.dup, 1) := by decide +kernel
theorem dL_act_63 : decode cL_act 63 = .ok (.iconst 0, 1) := by decide +kernel
theorem dL_act_64 : decode cL_act 64 = .ok (.iload_n 2, 1) := by decide +kernel
theorem dL_act_65 : decode cL_act 65 = .ok (.iconst 4, 1) := by decide +kernel
theorem dL_act_66 : decode cL_act 66 = .ok (.ishr, 1) := by decide +kernel
theorem dL_act_67 : decode cL_act 67 = .ok (.bipush 10, 2) := by decide +kernel
theorem dL_act_69 : decode cL_act 69 = .ok (.invokestatic 15, 3) := by decide +kernel
theorem dL_act_72 : decode cL_act 72 = .ok (.iastore, 1) := by decide +kernel
theorem dL_act_73 : decode cL_act 73 = .ok (.dup, 1) := by decide +kernel
theorem dL_act_74 : decode cL_act 74 = .ok (.iconst 1, 1) := by decide +kernel
theorem dL_act_75 : decode cL_act 75 = .ok (.iload 4, 2) := by decide +kernel
theorem dL_act_77 : decode cL_act 77 = .ok (.iastore, 1) := by decide +kernel
theorem dL_act_78 : decode cL_act 78 = .ok (.dup, 1) := by decide +kernel
theorem dL_act_79 : decode cL_act 79 = .ok (.iconst 2, 1) := by decide +kernel
theorem dL_act_80 : decode cL_act 80 = .ok (.iconst (-1), 1) := by decide +kernel
theorem dL_act_81 : decode cL_act 81 = .ok (.iastore, 1) := by decide +kernel
theorem dL_act_82 : decode cL_act 82 = .ok (.aastore, 1) := by decide +kernel
theorem dL_act_83 : decode cL_act 83 = .ok (.aload_n 1, 1) := by decide +kernel
theorem dL_act_84 : decode cL_act 84 = .ok (.getfield 25, 3) := by decide +kernel
theorem dL_act_87 : decode cL_act 87 = .ok (.iload_n 3, 1) := by decide +kernel
theorem dL_act_88 : decode cL_act 88 = .ok (.bipush 12, 2) := by decide +kernel
theorem dL_act_90 : decode cL_act 90 = .ok (.newarray .boolean, 2) := by decide +kernel
theorem dL_act_92 : decode cL_act 92 = .ok (.aastore, 1) := by decide +kernel
theorem dL_act_93 : decode cL_act 93 = .ok (.aload_n 1, 1) := by decide +kernel
theorem dL_act_94 : decode cL_act 94 = .ok (.getfield 25, 3) := by decide +kernel
theorem dL_act_97 : decode cL_act 97 = .ok (.iload_n 3, 1) := by decide +kernel
theorem dL_act_98 : decode cL_act 98 = .ok (.aaload, 1) := by decide +kernel
theorem dL_act_99 : decode cL_act 99 = .ok (.iload 5, 2) := by decide +kernel
theorem dL_act_101 : decode cL_act 101 = .ok (.iconst 1, 1) := by decide +kernel
theorem dL_act_102 : decode cL_act 102 = .ok (.bastore, 1) := by decide +kernel
theorem dL_act_103 : decode cL_act 103 = .ok (.aload_n 1, 1) := by decide +kernel
theorem dL_act_104 : decode cL_act 104 = .ok (.dup, 1) := by decide +kernel
theorem dL_act_105 : decode cL_act 105 = .ok (.getfield 9, 3) := by decide +kernel
theorem dL_act_108 : decode cL_act 108 = .ok (.iconst 1, 1) := by decide +kernel
theorem dL_act_109 : decode cL_act 109 = .ok (.iadd, 1) := by decide +kernel
theorem dL_act_110 : decode cL_act 110 = .ok (.putfield 9, 3) := by decide +kernel
theorem dL_act_113 : decode cL_act 113 = .ok (.aload_n 0, 1) := by decide +kernel
theorem dL_act_114 : decode cL_act 114 = .ok (.aload_n 1, 1) := by decide +kernel
theorem dL_act_115 : decode cL_act 115 = .ok (.getfield 21, 3) := by decide +kernel
theorem dL_act_118 : decode cL_act 118 = .ok (.iload_n 3, 1) := by decide +kernel
theorem dL_act_119 : decode cL_act 119 = .ok (.aaload, 1) := by decide +kernel
theorem dL_act_120 : decode cL_act 120 = .ok (.iconst 0, 1) := by decide +kernel
theorem dL_act_121 : decode cL_act 121 = .ok (.iaload, 1) := by decide +kernel
theorem dL_act_122 : decode cL_act 122 = .ok (.iload 5, 2) := by decide +kernel
theorem dL_act_124 : decode cL_act 124 = .ok (.iload 4, 2) := by decide +kernel
theorem dL_act_126 : decode cL_act 126 = .ok (.invokevirtual 29, 3) := by decide +kernel
theorem dL_act_129 : decode cL_act 129 = .ok (.iload_n 3, 1) := by decide +kernel
theorem dL_act_130 : decode cL_act 130 = .ok (.if_icmp .ne 7, 3) := by decide +kernel
theorem dL_act_133 : decode cL_act 133 = .ok (.iconst 1, 1) := by decide +kernel
theorem dL_act_134 : decode cL_act 134 = .ok (.goto 4, 3) := by decide +kernel
theorem dL_act_137 : decode cL_act 137 = .ok (.iconst 0, 1) := by decide +kernel
theorem dL_act_138 : decode cL_act 138 = .ok (.ireturn, 1) := by decide +kernel
theorem dL_act_139 : decode cL_act 139 = .ok (.iload_n 2, 1) := by decide +kernel
theorem dL_act_140 : decode cL_act 140 = .ok (.iconst 2, 1) := by decide +kernel
theorem dL_act_141 : decode cL_act 141 = .ok (.ishr, 1) := by decide +kernel
theorem dL_act_142 : decode cL_act 142 = .ok (.iload_n 3, 1) := by decide +kernel
theorem dL_act_143 : decode cL_act 143 = .ok (.invokestatic 15, 3) := by decide +kernel
theorem dL_act_146 : decode cL_act 146 = .ok (.istore 7, 2) := by decide +kernel
theorem dL_act_148 : decode cL_act 148 = .ok (.iload 6, 2) := by decide +kernel
theorem dL_act_150 : decode cL_act 150 = .ok (.tableswitch 586 2 16 #[74, 74, 132, 132, 132, 277, 277, 277, 357, 422, 422, 477, 477, 477, 537], 74) := by decide +kernel
theorem dL_act_224 : decode cL_act 224 = .ok (.aload_n 1, 1) := by decide +kernel
theorem dL_act_225 : decode cL_act 225 = .ok (.getfield 25, 3) := by decide +kernel
theorem dL_act_228 : decode cL_act 228 = .ok (.iload 7, 2) := by decide +kernel
theorem dL_act_230 : decode cL_act 230 = .ok (.aaload, 1) := by decide +kernel
theorem dL_act_231 : decode cL_act 231 = .ok (.iload 5, 2) := by decide +kernel
theorem dL_act_233 : decode cL_act 233 = .ok (.baload, 1) := by decide +kernel
theorem dL_act_234 : decode cL_act 234 = .ok (.ifCond .ne 12, 3) := by decide +kernel
theorem dL_act_237 : decode cL_act 237 = .ok (.aload_n 1, 1) := by decide +kernel
theorem dL_act_238 : decode cL_act 238 = .ok (.iload 7, 2) := by decide +kernel
theorem dL_act_240 : decode cL_act 240 = .ok (.invokevirtual 35, 3) := by decide +kernel
theorem dL_act_243 : decode cL_act 243 = .ok (.ifCond .eq 5, 3) := by decide +kernel
theorem dL_act_246 : decode cL_act 246 = .ok (.iconst 1, 1) := by decide +kernel
theorem dL_act_247 : decode cL_act 247 = .ok (.ireturn, 1) := by decide +kernel
theorem dL_act_248 : decode cL_act 248 = .ok (.aload_n 1, 1) := by decide +kernel
theorem dL_act_249 : decode cL_act 249 = .ok (.getfield 25, 3) := by decide +kernel
theorem dL_act_252 : decode cL_act 252 = .ok (.iload 7, 2) := by decide +kernel
theorem dL_act_254 : decode cL_act 254 = .ok (.aaload, 1) := by decide +kernel
theorem dL_act_255 : decode cL_act 255 = .ok (.iload 5, 2) := by decide +kernel
theorem dL_act_257 : decode cL_act 257 = .ok (.iconst 1, 1) := by decide +kernel
theorem dL_act_258 : decode cL_act 258 = .ok (.bastore, 1) := by decide +kernel
theorem dL_act_259 : decode cL_act 259 = .ok (.aload_n 0, 1) := by decide +kernel
theorem dL_act_260 : decode cL_act 260 = .ok (.iload 7, 2) := by decide +kernel
theorem dL_act_262 : decode cL_act 262 = .ok (.iload 5, 2) := by decide +kernel
theorem dL_act_264 : decode cL_act 264 = .ok (.invokevirtual 39, 3) := by decide +kernel
theorem dL_act_267 : decode cL_act 267 = .ok (.aload_n 1, 1) := by decide +kernel
theorem dL_act_268 : decode cL_act 268 = .ok (.iload 7, 2) := by decide +kernel
theorem dL_act_270 : decode cL_act 270 = .ok (.invokevirtual 42, 3) := by decide +kernel
theorem dL_act_273 : decode cL_act 273 = .ok (.if_icmp .ne 7, 3) := by decide +kernel
theorem dL_act_276 : decode cL_act 276 = .ok (.iconst 1, 1) := by decide +kernel
theorem dL_act_277 : decode cL_act 277 = .ok (.goto 4, 3) := by decide +kernel
theorem dL_act_280 : decode cL_act 280 = .ok (.iconst 0, 1) := by decide +kernel
theorem dL_act_281 : decode cL_act 281 = .ok (.ireturn, 1) := by decide +kernel
theorem dL_act_282 : decode cL_act 282 = .ok (.iconst 0, 1) := by decide +kernel
theorem dL_act_283 : decode cL_act 283 = .ok (.istore 8, 2) := by decide +kernel
theorem dL_act_285 : decode cL_act 285 = .ok (.aload_n 1, 1) := by decide +kernel
theorem dL_act_286 : decode cL_act 286 = .ok (.getfield 25, 3) := by decide +kernel
theorem dL_act_289 : decode cL_act 289 = .ok (.iload 7, 2) := by decide +kernel
theorem dL_act_291 : decode cL_act 291 = .ok (.aaload, 1) := by decide +kernel
theorem dL_act_292 : decode cL_act 292 = .ok (.iload 8, 2) := by decide +kernel
theorem dL_act_294 : decode cL_act 294 = .ok (.baload, 1) := by decide +kernel
theorem dL_act_295 : decode cL_act 295 = .ok (.ifCond .ne 9, 3) := by decide +kernel
theorem dL_act_298 : decode cL_act 298 = .ok (.iinc 8 1, 3) := by decide +kernel
theorem dL_act_301 : decode cL_act 301 = .ok (.goto (-16), 3) := by decide +kernel
theorem dL_act_304 : decode cL_act 304 = .ok (.iload_n 3, 1) := by decide +kernel
theorem dL_act_305 : decode cL_act 305 = .ok (.bipush 20, 2) := by decide +kernel
theorem dL_act_307 : decode cL_act 307 = .ok (.if_icmp .eq 16, 3) := by decide +kernel
theorem dL_act_310 : decode cL_act 310 = .ok (.aload_n 1, 1) := by decide +kernel
theorem dL_act_311 : decode cL_act 311 = .ok (.getfield 25, 3) := by decide +kernel
theorem dL_act_314 : decode cL_act 314 = .ok (.iload 7, 2) := by decide +kernel
theorem dL_act_316 : decode cL_act 316 = .ok (.aaload, 1) := by decide +kernel
theorem dL_act_317 : decode cL_act 317 = .ok (.iload 5, 2) := by decide +kernel
theorem dL_act_319 : decode cL_act 319 = .ok (.baload, 1) := by decide +kernel
theorem dL_act_320 : decode cL_act 320 = .ok (.ifCond .eq 5, 3) := by decide +kernel
theorem dL_act_323 : decode cL_act 323 = .ok (.iconst 1, 1) := by decide +kernel
theorem dL_act_324 : decode cL_act 324 = .ok (.ireturn, 1) := by decide +kernel
theorem dL_act_325 : decode cL_act 325 = .ok (.aload_n 1, 1) := by decide +kernel
theorem dL_act_326 : decode cL_act 326 = .ok (.getfield 21, 3) := by decide +kernel
theorem dL_act_329 : decode cL_act 329 = .ok (.iload_n 3, 1) := by decide +kernel
theorem dL_act_330 : decode cL_act 330 = .ok (.iconst 3, 1) := by decide +kernel
theorem dL_act_331 : decode cL_act 331 = .ok (.newarray .int, 2) := by decide +kernel
theorem dL_act_333 : decode cL_act 333 = .ok (.dup, 1) := by decide +kernel
theorem dL_act_334 : decode cL_act 334 = .ok (.iconst 0, 1) := by decide +kernel
theorem dL_act_335 : decode cL_act 335 = .ok (.aload_n 1, 1) := by decide +kernel
theorem dL_act_336 : decode cL_act 336 = .ok (.getfield 21, 3) := by decide +kernel
theorem dL_act_339 : decode cL_act 339 = .ok (.iload 7, 2) := by decide +kernel
theorem dL_act_341 : decode cL_act 341 = .ok (.aaload, 1) := by decide +kernel
theorem dL_act_342 : decode cL_act 342 = .ok (.iconst 0, 1) := by decide +kernel
theorem dL_act_343 : decode cL_act 343 = .ok (.iaload, 1) := by decide +kernel
theorem dL_act_344 : decode cL_act 344 = .ok (.iastore, 1) := by decide +kernel
theorem dL_act_345 : decode cL_act 345 = .ok (.dup, 1) := by decide +kernel
theorem dL_act_346 : decode cL_act 346 = .ok (.iconst 1, 1) := by decide +kernel
theorem dL_act_347 : decode cL_act 347 = .ok (.iload 4, 2) := by decide +kernel
theorem dL_act_349 : decode cL_act 349 = .ok (.iastore, 1) := by decide +kernel
theorem dL_act_350 : decode cL_act 350 = .ok (.dup, 1) := by decide +kernel
theorem dL_act_351 : decode cL_act 351 = .ok (.iconst 2, 1) := by decide +kernel
theorem dL_act_352 : decode cL_act 352 = .ok (.iload 7, 2) := by decide +kernel
theorem dL_act_354 : decode cL_act 354 = .ok (.iastore, 1) := by decide +kernel
theorem dL_act_355 : decode cL_act 355 = .ok (.aastore, 1) := by decide +kernel
theorem dL_act_356 : decode cL_act 356 = .ok (.aload_n 1, 1) := by decide +kernel
theorem dL_act_357 : decode cL_act 357 = .ok (.getfield 25, 3) := by decide +kernel
theorem dL_act_360 : decode cL_act 360 = .ok (.iload_n 3, 1) := by decide +kernel
theorem dL_act_361 : decode cL_act 361 = .ok (.aload_n 1, 1) := by decide +kernel
theorem dL_act_362 : decode cL_act 362 = .ok (.getfield 25, 3) := by decide +kernel
theorem dL_act_365 : decode cL_act 365 = .ok (.iload 7, 2) := by decide +kernel
theorem dL_act_367 : decode cL_act 367 = .ok (.aaload, 1) := by decide +kernel
theorem dL_act_368 : decode cL_act 368 = .ok (.invokevirtual 46, 3) := by decide +kernel
theorem dL_act_371 : decode cL_act 371 = .ok (.checkcast 47, 3) := by decide +kernel
theorem dL_act_374 : decode cL_act 374 = .ok (.aastore, 1) := by decide +kernel
theorem dL_act_375 : decode cL_act 375 = .ok (.aload_n 1, 1) := by decide +kernel
theorem dL_act_376 : decode cL_act 376 = .ok (.getfield 25, 3) := by decide +kernel
theorem dL_act_379 : decode cL_act 379 = .ok (.iload_n 3, 1) := by decide +kernel
theorem dL_act_380 : decode cL_act 380 = .ok (.aaload, 1) := by decide +kernel
theorem dL_act_381 : decode cL_act 381 = .ok (.iload 8, 2) := by decide +kernel
theorem dL_act_383 : decode cL_act 383 = .ok (.iconst 0, 1) := by decide +kernel
theorem dL_act_384 : decode cL_act 384 = .ok (.bastore, 1) := by decide +kernel
theorem dL_act_385 : decode cL_act 385 = .ok (.aload_n 1, 1) := by decide +kernel
theorem dL_act_386 : decode cL_act 386 = .ok (.getfield 25, 3) := by decide +kernel
theorem dL_act_389 : decode cL_act 389 = .ok (.iload_n 3, 1) := by decide +kernel
theorem dL_act_390 : decode cL_act 390 = .ok (.aaload, 1) := by decide +kernel
theorem dL_act_391 : decode cL_act 391 = .ok (.iload 5, 2) := by decide +kernel
theorem dL_act_393 : decode cL_act 393 = .ok (.iconst 1, 1) := by decide +kernel
theorem dL_act_394 : decode cL_act 394 = .ok (.bastore, 1) := by decide +kernel
theorem dL_act_395 : decode cL_act 395 = .ok (.aload_n 1, 1) := by decide +kernel
theorem dL_act_396 : decode cL_act 396 = .ok (.dup, 1) := by decide +kernel
theorem dL_act_397 : decode cL_act 397 = .ok (.getfield 9, 3) := by decide +kernel
theorem dL_act_400 : decode cL_act 400 = .ok (.iconst 1, 1) := by decide +kernel
theorem dL_act_401 : decode cL_act 401 = .ok (.iadd, 1) := by decide +kernel
theorem dL_act_402 : decode cL_act 402 = .ok (.putfield 9, 3) := by decide +kernel
theorem dL_act_405 : decode cL_act 405 = .ok (.aload_n 0, 1) := by decide +kernel
theorem dL_act_406 : decode cL_act 406 = .ok (.iload 7, 2) := by decide +kernel
theorem dL_act_408 : decode cL_act 408 = .ok (.iload 8, 2) := by decide +kernel
theorem dL_act_410 : decode cL_act 410 = .ok (.iload 5, 2) := by decide +kernel
theorem dL_act_412 : decode cL_act 412 = .ok (.iload 4, 2) := by decide +kernel
theorem dL_act_414 : decode cL_act 414 = .ok (.invokevirtual 52, 3) := by decide +kernel
theorem dL_act_417 : decode cL_act 417 = .ok (.iload_n 3, 1) := by decide +kernel
theorem dL_act_418 : decode cL_act 418 = .ok (.if_icmp .ne 7, 3) := by decide +kernel
theorem dL_act_421 : decode cL_act 421 = .ok (.iconst 1, 1) := by decide +kernel
theorem dL_act_422 : decode cL_act 422 = .ok (.goto 4, 3) := by decide +kernel
theorem dL_act_425 : decode cL_act 425 = .ok (.iconst 0, 1) := by decide +kernel
theorem dL_act_426 : decode cL_act 426 = .ok (.ireturn, 1) := by decide +kernel
theorem dL_act_427 : decode cL_act 427 = .ok (.iload 4, 2) := by decide +kernel
theorem dL_act_429 : decode cL_act 429 = .ok (.iconst 1, 1) := by decide +kernel
theorem dL_act_430 : decode cL_act 430 = .ok (.iadd, 1) := by decide +kernel
theorem dL_act_431 : decode cL_act 431 = .ok (.iload_n 2, 1) := by decide +kernel
theorem dL_act_432 : decode cL_act 432 = .ok (.iconst 5, 1) := by decide +kernel
theorem dL_act_433 : decode cL_act 433 = .ok (.ishr, 1) := by decide +kernel
theorem dL_act_434 : decode cL_act 434 = .ok (.iconst 5, 1) := by decide +kernel
theorem dL_act_435 : decode cL_act 435 = .ok (.invokestatic 15, 3) := by decide +kernel
theorem dL_act_438 : decode cL_act 438 = .ok (.iadd, 1) := by decide +kernel
theorem dL_act_439 : decode cL_act 439 = .ok (.bipush 6, 2) := by decide +kernel
theorem dL_act_441 : decode cL_act 441 = .ok (.irem, 1) := by decide +kernel
theorem dL_act_442 : decode cL_act 442 = .ok (.istore 9, 2) := by decide +kernel
theorem dL_act_444 : decode cL_act 444 = .ok (.aload_n 1, 1) := by decide +kernel
theorem dL_act_445 : decode cL_act 445 = .ok (.getfield 56, 3) := by decide +kernel
theorem dL_act_448 : decode cL_act 448 = .ok (.iload 4, 2) := by decide +kernel
theorem dL_act_450 : decode cL_act 450 = .ok (.aaload, 1) := by decide +kernel
theorem dL_act_451 : decode cL_act 451 = .ok (.iload 9, 2) := by decide +kernel
theorem dL_act_453 : decode cL_act 453 = .ok (.baload, 1) := by decide +kernel
theorem dL_act_454 : decode cL_act 454 = .ok (.ifCond .ne 7, 3) := by decide +kernel
theorem dL_act_457 : decode cL_act 457 = .ok (.iconst 1, 1) := by decide +kernel
theorem dL_act_458 : decode cL_act 458 = .ok (.goto 4, 3) := by decide +kernel
theorem dL_act_461 : decode cL_act 461 = .ok (.iconst 0, 1) := by decide +kernel
theorem dL_act_462 : decode cL_act 462 = .ok (.istore 10, 2) := by decide +kernel
theorem dL_act_464 : decode cL_act 464 = .ok (.aload_n 1, 1) := by decide +kernel
theorem dL_act_465 : decode cL_act 465 = .ok (.getfield 56, 3) := by decide +kernel
theorem dL_act_468 : decode cL_act 468 = .ok (.iload 4, 2) := by decide +kernel
theorem dL_act_470 : decode cL_act 470 = .ok (.aaload, 1) := by decide +kernel
theorem dL_act_471 : decode cL_act 471 = .ok (.iload 9, 2) := by decide +kernel
theorem dL_act_473 : decode cL_act 473 = .ok (.iload 10, 2) := by decide +kernel
theorem dL_act_475 : decode cL_act 475 = .ok (.bastore, 1) := by decide +kernel
theorem dL_act_476 : decode cL_act 476 = .ok (.aload_n 1, 1) := by decide +kernel
theorem dL_act_477 : decode cL_act 477 = .ok (.getfield 56, 3) := by decide +kernel
theorem dL_act_480 : decode cL_act 480 = .ok (.iload 9, 2) := by decide +kernel
theorem dL_act_482 : decode cL_act 482 = .ok (.aaload, 1) := by decide +kernel
theorem dL_act_483 : decode cL_act 483 = .ok (.iload 4, 2) := by decide +kernel
theorem dL_act_485 : decode cL_act 485 = .ok (.iload 10, 2) := by decide +kernel
theorem dL_act_487 : decode cL_act 487 = .ok (.bastore, 1) := by decide +kernel
theorem dL_act_488 : decode cL_act 488 = .ok (.aload_n 0, 1) := by decide +kernel
theorem dL_act_489 : decode cL_act 489 = .ok (.iload 4, 2) := by decide +kernel
theorem dL_act_491 : decode cL_act 491 = .ok (.iload 9, 2) := by decide +kernel
theorem dL_act_493 : decode cL_act 493 = .ok (.invokevirtual 59, 3) := by decide +kernel
theorem dL_act_496 : decode cL_act 496 = .ok (.iload 10, 2) := by decide +kernel
theorem dL_act_498 : decode cL_act 498 = .ok (.if_icmp .ne 7, 3) := by decide +kernel
theorem dL_act_501 : decode cL_act 501 = .ok (.iconst 1, 1) := by decide +kernel
theorem dL_act_502 : decode cL_act 502 = .ok (.goto 4, 3) := by decide +kernel
theorem dL_act_505 : decode cL_act 505 = .ok (.iconst 0, 1) := by decide +kernel
theorem dL_act_506 : decode cL_act 506 = .ok (.ireturn, 1) := by decide +kernel
theorem dL_act_507 : decode cL_act 507 = .ok (.iload_n 2, 1) := by decide +kernel
theorem dL_act_508 : decode cL_act 508 = .ok (.iconst 4, 1) := by decide +kernel
theorem dL_act_509 : decode cL_act 509 = .ok (.ishr, 1) := by decide +kernel
theorem dL_act_510 : decode cL_act 510 = .ok (.bipush 10, 2) := by decide +kernel
theorem dL_act_512 : decode cL_act 512 = .ok (.invokestatic 15, 3) := by decide +kernel
theorem dL_act_515 : decode cL_act 515 = .ok (.istore 11, 2) := by decide +kernel
theorem dL_act_517 : decode cL_act 517 = .ok (.aload_n 1, 1) := by decide +kernel
theorem dL_act_518 : decode cL_act 518 = .ok (.getfield 63, 3) := by decide +kernel
theorem dL_act_521 : decode cL_act 521 = .ok (.iload 4, 2) := by decide +kernel
theorem dL_act_523 : decode cL_act 523 = .ok (.aaload, 1) := by decide +kernel
theorem dL_act_524 : decode cL_act 524 = .ok (.iload 11, 2) := by decide +kernel
theorem dL_act_526 : decode cL_act 526 = .ok (.aload_n 1, 1) := by decide +kernel
theorem dL_act_527 : decode cL_act 527 = .ok (.getfield 63, 3) := by decide +kernel
theorem dL_act_530 : decode cL_act 530 = .ok (.iload 4, 2) := by decide +kernel
theorem dL_act_532 : decode cL_act 532 = .ok (.aaload, 1) := by decide +kernel
theorem dL_act_533 : decode cL_act 533 = .ok (.iload 11, 2) := by decide +kernel
theorem dL_act_535 : decode cL_act 535 = .ok (.baload, 1) := by decide +kernel
theorem dL_act_536 : decode cL_act 536 = .ok (.ifCond .ne 7, 3) := by decide +kernel
theorem dL_act_539 : decode cL_act 539 = .ok (.iconst 1, 1) := by decide +kernel
theorem dL_act_540 : decode cL_act 540 = .ok (.goto 4, 3) := by decide +kernel
theorem dL_act_543 : decode cL_act 543 = .ok (.iconst 0, 1) := by decide +kernel
theorem dL_act_544 : decode cL_act 544 = .ok (.bastore, 1) := by decide +kernel
theorem dL_act_545 : decode cL_act 545 = .ok (.aload_n 0, 1) := by decide +kernel
theorem dL_act_546 : decode cL_act 546 = .ok (.iload 4, 2) := by decide +kernel
theorem dL_act_548 : decode cL_act 548 = .ok (.iload 11, 2) := by decide +kernel
theorem dL_act_550 : decode cL_act 550 = .ok (.invokevirtual 66, 3) := by decide +kernel
theorem dL_act_553 : decode cL_act 553 = .ok (.aload_n 1, 1) := by decide +kernel
theorem dL_act_554 : decode cL_act 554 = .ok (.getfield 63, 3) := by decide +kernel
theorem dL_act_557 : decode cL_act 557 = .ok (.iload 4, 2) := by decide +kernel
theorem dL_act_559 : decode cL_act 559 = .ok (.aaload, 1) := by decide +kernel
theorem dL_act_560 : decode cL_act 560 = .ok (.iload 11, 2) := by decide +kernel
theorem dL_act_562 : decode cL_act 562 = .ok (.baload, 1) := by decide +kernel
theorem dL_act_563 : decode cL_act 563 = .ok (.if_icmp .ne 7, 3) := by decide +kernel
theorem dL_act_566 : decode cL_act 566 = .ok (.iconst 1, 1) := by decide +kernel
theorem dL_act_567 : decode cL_act 567 = .ok (.goto 4, 3) := by decide +kernel
theorem dL_act_570 : decode cL_act 570 = .ok (.iconst 0, 1) := by decide +kernel
theorem dL_act_571 : decode cL_act 571 = .ok (.ireturn, 1) := by decide +kernel
theorem dL_act_572 : decode cL_act 572 = .ok (.aload_n 1, 1) := by decide +kernel
theorem dL_act_573 : decode cL_act 573 = .ok (.getfield 69, 3) := by decide +kernel
theorem dL_act_576 : decode cL_act 576 = .ok (.iload 4, 2) := by decide +kernel
theorem dL_act_578 : decode cL_act 578 = .ok (.aaload, 1) := by decide +kernel
theorem dL_act_579 : decode cL_act 579 = .ok (.iload 5, 2) := by decide +kernel
theorem dL_act_581 : decode cL_act 581 = .ok (.aload_n 1, 1) := by decide +kernel
theorem dL_act_582 : decode cL_act 582 = .ok (.getfield 69, 3) := by decide +kernel
theorem dL_act_585 : decode cL_act 585 = .ok (.iload 4, 2) := by decide +kernel
theorem dL_act_587 : decode cL_act 587 = .ok (.aaload, 1) := by decide +kernel
theorem dL_act_588 : decode cL_act 588 = .ok (.iload 5, 2) := by decide +kernel
theorem dL_act_590 : decode cL_act 590 = .ok (.baload, 1) := by decide +kernel
theorem dL_act_591 : decode cL_act 591 = .ok (.ifCond .ne 7, 3) := by decide +kernel
theorem dL_act_594 : decode cL_act 594 = .ok (.iconst 1, 1) := by decide +kernel
theorem dL_act_595 : decode cL_act 595 = .ok (.goto 4, 3) := by decide +kernel
theorem dL_act_598 : decode cL_act 598 = .ok (.iconst 0, 1) := by decide +kernel
theorem dL_act_599 : decode cL_act 599 = .ok (.bastore, 1) := by decide +kernel
theorem dL_act_600 : decode cL_act 600 = .ok (.aload_n 0, 1) := by decide +kernel
theorem dL_act_601 : decode cL_act 601 = .ok (.iload 4, 2) := by decide +kernel
theorem dL_act_603 : decode cL_act 603 = .ok (.iload 5, 2) := by decide +kernel
theorem dL_act_605 : decode cL_act 605 = .ok (.invokevirtual 72, 3) := by decide +kernel
theorem dL_act_608 : decode cL_act 608 = .ok (.aload_n 1, 1) := by decide +kernel
theorem dL_act_609 : decode cL_act 609 = .ok (.getfield 69, 3) := by decide +kernel
theorem dL_act_612 : decode cL_act 612 = .ok (.iload 4, 2) := by decide +kernel
theorem dL_act_614 : decode cL_act 614 = .ok (.aaload, 1) := by decide +kernel
theorem dL_act_615 : decode cL_act 615 = .ok (.iload 5, 2) := by decide +kernel
theorem dL_act_617 : decode cL_act 617 = .ok (.baload, 1) := by decide +kernel
theorem dL_act_618 : decode cL_act 618 = .ok (.if_icmp .ne 7, 3) := by decide +kernel
theorem dL_act_621 : decode cL_act 621 = .ok (.iconst 1, 1) := by decide +kernel
theorem dL_act_622 : decode cL_act 622 = .ok (.goto 4, 3) := by decide +kernel
theorem dL_act_625 : decode cL_act 625 = .ok (.iconst 0, 1) := by decide +kernel
theorem dL_act_626 : decode cL_act 626 = .ok (.ireturn, 1) := by decide +kernel
theorem dL_act_627 : decode cL_act 627 = .ok (.aload_n 1, 1) := by decide +kernel
theorem dL_act_628 : decode cL_act 628 = .ok (.getfield 75, 3) := by decide +kernel
theorem dL_act_631 : decode cL_act 631 = .ok (.iload 7, 2) := by decide +kernel
theorem dL_act_633 : decode cL_act 633 = .ok (.aaload, 1) := by decide +kernel
theorem dL_act_634 : decode cL_act 634 = .ok (.iload 4, 2) := by decide +kernel
theorem dL_act_636 : decode cL_act 636 = .ok (.baload, 1) := by decide +kernel
theorem dL_act_637 : decode cL_act 637 = .ok (.ifCond .ne 14, 3) := by decide +kernel
theorem dL_act_640 : decode cL_act 640 = .ok (.aload_n 1, 1) := by decide +kernel
theorem dL_act_641 : decode cL_act 641 = .ok (.iload 7, 2) := by decide +kernel
theorem dL_act_643 : decode cL_act 643 = .ok (.iload 4, 2) := by decide +kernel
theorem dL_act_645 : decode cL_act 645 = .ok (.invokevirtual 78, 3) := by decide +kernel
theorem dL_act_648 : decode cL_act 648 = .ok (.ifCond .eq 5, 3) := by decide +kernel
theorem dL_act_651 : decode cL_act 651 = .ok (.iconst 1, 1) := by decide +kernel
theorem dL_act_652 : decode cL_act 652 = .ok (.ireturn, 1) := by decide +kernel
theorem dL_act_653 : decode cL_act 653 = .ok (.aload_n 1, 1) := by decide +kernel
theorem dL_act_654 : decode cL_act 654 = .ok (.getfield 75, 3) := by decide +kernel
theorem dL_act_657 : decode cL_act 657 = .ok (.iload 7, 2) := by decide +kernel
theorem dL_act_659 : decode cL_act 659 = .ok (.aaload, 1) := by decide +kernel
theorem dL_act_660 : decode cL_act 660 = .ok (.iload 4, 2) := by decide +kernel
theorem dL_act_662 : decode cL_act 662 = .ok (.iconst 1, 1) := by decide +kernel
theorem dL_act_663 : decode cL_act 663 = .ok (.bastore, 1) := by decide +kernel
theorem dL_act_664 : decode cL_act 664 = .ok (.aload_n 0, 1) := by decide +kernel
theorem dL_act_665 : decode cL_act 665 = .ok (.iload 7, 2) := by decide +kernel
theorem dL_act_667 : decode cL_act 667 = .ok (.iload 4, 2) := by decide +kernel
theorem dL_act_669 : decode cL_act 669 = .ok (.invokevirtual 81, 3) := by decide +kernel
theorem dL_act_672 : decode cL_act 672 = .ok (.aload_n 1, 1) := by decide +kernel
theorem dL_act_673 : decode cL_act 673 = .ok (.iload 7, 2) := by decide +kernel
theorem dL_act_675 : decode cL_act 675 = .ok (.invokevirtual 84, 3) := by decide +kernel
theorem dL_act_678 : decode cL_act 678 = .ok (.if_icmp .ne 7, 3) := by decide +kernel
theorem dL_act_681 : decode cL_act 681 = .ok (.iconst 1, 1) := by decide +kernel
theorem dL_act_682 : decode cL_act 682 = .ok (.goto 4, 3) := by decide +kernel
theorem dL_act_685 : decode cL_act 685 = .ok (.iconst 0, 1) := by decide +kernel
theorem dL_act_686 : decode cL_act 686 = .ok (.ireturn, 1) := by decide +kernel
theorem dL_act_687 : decode cL_act 687 = .ok (.aload_n 1, 1) := by decide +kernel
theorem dL_act_688 : decode cL_act 688 = .ok (.getfield 75, 3) := by decide +kernel
theorem dL_act_691 : decode cL_act 691 = .ok (.iload 7, 2) := by decide +kernel
theorem dL_act_693 : decode cL_act 693 = .ok (.aaload, 1) := by decide +kernel
theorem dL_act_694 : decode cL_act 694 = .ok (.iload 4, 2) := by decide +kernel
theorem dL_act_696 : decode cL_act 696 = .ok (.baload, 1) := by decide +kernel
theorem dL_act_697 : decode cL_act 697 = .ok (.ifCond .ne 5, 3) := by decide +kernel
theorem dL_act_700 : decode cL_act 700 = .ok (.iconst 1, 1) := by decide +kernel
theorem dL_act_701 : decode cL_act 701 = .ok (.ireturn, 1) := by decide +kernel
theorem dL_act_702 : decode cL_act 702 = .ok (.aload_n 1, 1) := by decide +kernel
theorem dL_act_703 : decode cL_act 703 = .ok (.getfield 75, 3) := by decide +kernel
theorem dL_act_706 : decode cL_act 706 = .ok (.iload 7, 2) := by decide +kernel
theorem dL_act_708 : decode cL_act 708 = .ok (.aaload, 1) := by decide +kernel
theorem dL_act_709 : decode cL_act 709 = .ok (.iload 4, 2) := by decide +kernel
theorem dL_act_711 : decode cL_act 711 = .ok (.iconst 0, 1) := by decide +kernel
theorem dL_act_712 : decode cL_act 712 = .ok (.bastore, 1) := by decide +kernel
theorem dL_act_713 : decode cL_act 713 = .ok (.aload_n 0, 1) := by decide +kernel
theorem dL_act_714 : decode cL_act 714 = .ok (.iload 7, 2) := by decide +kernel
theorem dL_act_716 : decode cL_act 716 = .ok (.iload 4, 2) := by decide +kernel
theorem dL_act_718 : decode cL_act 718 = .ok (.invokevirtual 87, 3) := by decide +kernel
theorem dL_act_721 : decode cL_act 721 = .ok (.aload_n 1, 1) := by decide +kernel
theorem dL_act_722 : decode cL_act 722 = .ok (.iload 7, 2) := by decide +kernel
theorem dL_act_724 : decode cL_act 724 = .ok (.invokevirtual 84, 3) := by decide +kernel
theorem dL_act_727 : decode cL_act 727 = .ok (.if_icmp .ne 7, 3) := by decide +kernel
theorem dL_act_730 : decode cL_act 730 = .ok (.iconst 1, 1) := by decide +kernel
theorem dL_act_731 : decode cL_act 731 = .ok (.goto 4, 3) := by decide +kernel
theorem dL_act_734 : decode cL_act 734 = .ok (.iconst 0, 1) := by decide +kernel
theorem dL_act_735 : decode cL_act 735 = .ok (.ireturn, 1) := by decide +kernel
theorem dL_act_736 : decode cL_act 736 = .ok (.iconst 1, 1) := by decide +kernel
theorem dL_act_737 : decode cL_act 737 = .ok (.iload_n 2, 1) := by decide +kernel
theorem dL_act_738 : decode cL_act 738 = .ok (.iconst 4, 1) := by decide +kernel
theorem dL_act_739 : decode cL_act 739 = .ok (.ishr, 1) := by decide +kernel
theorem dL_act_740 : decode cL_act 740 = .ok (.iconst 3, 1) := by decide +kernel
theorem dL_act_741 : decode cL_act 741 = .ok (.invokestatic 15, 3) := by decide +kernel
theorem dL_act_744 : decode cL_act 744 = .ok (.iadd, 1) := by decide +kernel
theorem dL_act_745 : decode cL_act 745 = .ok (.istore 12, 2) := by decide +kernel
theorem dL_act_747 : decode cL_act 747 = .ok (.aload_n 0, 1) := by decide +kernel
theorem dL_act_748 : decode cL_act 748 = .ok (.iload 12, 2) := by decide +kernel
theorem dL_act_750 : decode cL_act 750 = .ok (.invokevirtual 90, 3) := by decide +kernel
theorem dL_act_753 : decode cL_act 753 = .ok (.aload_n 1, 1) := by decide +kernel
theorem dL_act_754 : decode cL_act 754 = .ok (.iload 12, 2) := by decide +kernel
theorem dL_act_756 : decode cL_act 756 = .ok (.invokevirtual 93, 3) := by decide +kernel
theorem dL_act_759 : decode cL_act 759 = .ok (.invokevirtual 97, 3) := by decide +kernel
theorem dL_act_762 : decode cL_act 762 = .ok (.if_icmp .ne 7, 3) := by decide +kernel
theorem dL_act_765 : decode cL_act 765 = .ok (.iconst 1, 1) := by decide +kernel
theorem dL_act_766 : decode cL_act 766 = .ok (.goto 4, 3) := by decide +kernel
theorem dL_act_769 : decode cL_act 769 = .ok (.iconst 0, 1) := by decide +kernel
theorem dL_act_770 : decode cL_act 770 = .ok (.ireturn, 1) := by decide +kernel
