set_option maxRecDepth 20000 in
theorem ggL_addFable_X2_addFable : GoodIn wsL_addFable wsX2_addFable := goodIn_ca (goodIn_ca (goodIn_r _ [7, 8, 9, 10, 6, 11, 12, 13, 14, 15, 16, 17, 18, 19, 20, 21, 22, 23, 24, 25, 26, 27, 28, 29, 30, 31, 32, 33, 34, 35, 36, 37, 38, 39, 40, 41, 42, 43, 44, 45, 46, 47, 48, 49] (by decide +kernel) (by decide +kernel)) (goodIn_sub (fun _ h => List.mem_cons_of_mem _ (List.mem_append_left _ (List.mem_append_right _ h))) (by decide +kernel))) (goodIn_sub (fun _ h => List.mem_cons_of_mem _ (List.mem_append_right _ h)) (by decide +kernel))
set_option maxRecDepth 20000 in
theorem gL_addFable_X2_addFable : GoodIn wsL_addFable (wsV RL 7 RX2 yX2_addFable wsX2_addFable) := goodIn_app (goodIn_of _ (by decide +kernel)) ggL_addFable_X2_addFable
theorem dL_addFable_0 : decode cL_addFable 0 = .ok (.aload 4, 2) := by decide +kernel
theorem dL_addFable_2 : decode cL_addFable 2 = .ok (.iconst 0, 1) := by decide +kernel
theorem dL_addFable_3 : decode cL_addFable 3 = .ok (.aload_n 0, 1) := by decide +kernel
theorem dL_addFable_4 : decode cL_addFable 4 = .ok (.iload_n 1, 1) := by decide +kernel
theorem dL_addFable_5 : decode cL_addFable 5 = .ok (.iload_n 2, 1) := by decide +kernel
theorem dL_addFable_6 : decode cL_addFable 6 = .ok (.iload_n 3, 1) := by decide +kernel
theorem dL_addFable_7 : decode cL_addFable 7 = .ok (.invokevirtual 7, 3) := by decide +kernel
theorem dL_addFable_10 : decode cL_addFable 10 = .ok (.i2l, 1) := by decide +kernel
theorem dL_addFable_11 : decode cL_addFable 11 = .ok (.lastore, 1) := by decide +kernel
theorem dL_addFable_12 : decode cL_addFable 12 = .ok (.goto 11, 3) := by decide +kernel
theorem dL_addFable_15 : decode cL_addFable 15 = .ok (.astore 5, 2) := by decide +kernel
theorem dL_addFable_17 : decode cL_addFable 17 = .ok (.iconst 1, 1) := by decide +kernel
theorem dL_addFable_18 : decode cL_addFable 18 = .ok (.ireturn, 1) := by decide +kernel
theorem dL_addFable_19 : decode cL_addFable 19 = .ok (.astore 5, 2) := by decide +kernel
theorem dL_addFable_21 : decode cL_addFable 21 = .ok (.iconst 2, 1) := by decide +kernel
theorem dL_addFable_22 : decode cL_addFable 22 = .ok (.ireturn, 1) := by decide +kernel
theorem dL_addFable_23 : decode cL_addFable 23 = .ok (.iconst 0, 1) := by decide +kernel
theorem dL_addFable_24 : decode cL_addFable 24 = .ok (.ireturn, 1) := by decide +kernel
set_option maxRecDepth 20000 in
theorem ggL_addBeast_X2_addBeast : GoodIn wsL_addBeast wsX2_addBeast := goodIn_ca (goodIn_ca (goodIn_r _ [7, 8, 9, 10, 11, 12, 13, 14, 15, 6, 16, 17, 18, 19, 20, 21, 22, 23, 24, 25, 26, 27, 28, 29, 30, 31, 32, 33, 34, 35, 36, 37, 38, 39, 40, 41, 42, 43, 44, 45, 46] (by decide +kernel) (by decide +kernel)) (goodIn_sub (fun _ h => List.mem_cons_of_mem _ (List.mem_append_left _ (List.mem_append_right _ h))) (by decide +kernel))) (goodIn_sub (fun _ h => List.mem_cons_of_mem _ (List.mem_append_right _ h)) (by decide +kernel))
set_option maxRecDepth 20000 in
theorem gL_addBeast_X2_addBeast : GoodIn wsL_addBeast (wsV RL 17 RX2 yX2_addBeast wsX2_addBeast) := goodIn_app (goodIn_of _ (by decide +kernel)) ggL_addBeast_X2_addBeast
theorem dL_addBeast_0 : decode cL_addBeast 0 = .ok (.aload_n 3, 1) := by decide +kernel
theorem dL_addBeast_1 : decode cL_addBeast 1 = .ok (.iconst 0, 1) := by decide +kernel
theorem dL_addBeast_2 : decode cL_addBeast 2 = .ok (.aload_n 0, 1) := by decide +kernel
theorem dL_addBeast_3 : decode cL_addBeast 3 = .ok (.iload_n 1, 1) := by decide +kernel
theorem dL_addBeast_4 : decode cL_addBeast 4 = .ok (.iload_n 2, 1) := by decide +kernel
theorem dL_addBeast_5 : decode cL_addBeast 5 = .ok (.invokevirtual 17, 3) := by decide +kernel
theorem dL_addBeast_8 : decode cL_addBeast 8 = .ok (.i2l, 1) := by decide +kernel
theorem dL_addBeast_9 : decode cL_addBeast 9 = .ok (.lastore, 1) := by decide +kernel
theorem dL_addBeast_10 : decode cL_addBeast 10 = .ok (.goto 11, 3) := by decide +kernel
theorem dL_addBeast_13 : decode cL_addBeast 13 = .ok (.astore 4, 2) := by decide +kernel
theorem dL_addBeast_15 : decode cL_addBeast 15 = .ok (.iconst 1, 1) := by decide +kernel
theorem dL_addBeast_16 : decode cL_addBeast 16 = .ok (.ireturn, 1) := by decide +kernel
theorem dL_addBeast_17 : decode cL_addBeast 17 = .ok (.astore 4, 2) := by decide +kernel
theorem dL_addBeast_19 : decode cL_addBeast 19 = .ok (.iconst 2, 1) := by decide +kernel
theorem dL_addBeast_20 : decode cL_addBeast 20 = .ok (.ireturn, 1) := by decide +kernel
theorem dL_addBeast_21 : decode cL_addBeast 21 = .ok (.iconst 0, 1) := by decide +kernel
theorem dL_addBeast_22 : decode cL_addBeast 22 = .ok (.ireturn, 1) := by decide +kernel
set_option maxRecDepth 20000 in
theorem ggL_addVariant_X2_addVariant : GoodIn wsL_addVariant wsX2_addVariant := goodIn_ca (goodIn_ca (goodIn_r _ [7, 8, 9, 10, 11, 12, 13, 14, 15, 6, 16, 17, 18, 19, 20, 21, 22, 23, 24, 25, 26, 27, 28, 29, 30, 31, 32, 33, 34, 35, 36, 37, 38, 39, 40, 41, 42, 43, 44, 45, 46, 47, 48, 49, 50, 51, 52, 53, 54, 55, 56, 57, 58] (by decide +kernel) (by decide +kernel)) (goodIn_sub (fun _ h => List.mem_cons_of_mem _ (List.mem_append_left _ (List.mem_append_right _ h))) (by decide +kernel))) (goodIn_sub (fun _ h => List.mem_cons_of_mem _ (List.mem_append_right _ h)) (by decide +kernel))
set_option maxRecDepth 20000 in
theorem gL_addVariant_X2_addVariant : GoodIn wsL_addVariant (wsV RL 21 RX2 yX2_addVariant wsX2_addVariant) := goodIn_app (goodIn_of _ (by decide +kernel)) ggL_addVariant_X2_addVariant
theorem dL_addVariant_0 : decode cL_addVariant 0 = .ok (.aload 5, 2) := by decide +kernel
theorem dL_addVariant_2 : decode cL_addVariant 2 = .ok (.iconst 0, 1) := by decide +kernel
theorem dL_addVariant_3 : decode cL_addVariant 3 = .ok (.aload_n 0, 1) := by decide +kernel
theorem dL_addVariant_4 : decode cL_addVariant 4 = .ok (.iload_n 1, 1) := by decide +kernel
theorem dL_addVariant_5 : decode cL_addVariant 5 = .ok (.iload_n 2, 1) := by decide +kernel
theorem dL_addVariant_6 : decode cL_addVariant 6 = .ok (.iload_n 3, 1) := by decide +kernel
theorem dL_addVariant_7 : decode cL_addVariant 7 = .ok (.iload 4, 2) := by decide +kernel
theorem dL_addVariant_9 : decode cL_addVariant 9 = .ok (.invokevirtual 21, 3) := by decide +kernel
theorem dL_addVariant_12 : decode cL_addVariant 12 = .ok (.i2l, 1) := by decide +kernel
theorem dL_addVariant_13 : decode cL_addVariant 13 = .ok (.lastore, 1) := by decide +kernel
theorem dL_addVariant_14 : decode cL_addVariant 14 = .ok (.goto 11, 3) := by decide +kernel
theorem dL_addVariant_17 : decode cL_addVariant 17 = .ok (.astore 6, 2) := by decide +kernel
theorem dL_addVariant_19 : decode cL_addVariant 19 = .ok (.iconst 1, 1) := by decide +kernel
theorem dL_addVariant_20 : decode cL_addVariant 20 = .ok (.ireturn, 1) := by decide +kernel
theorem dL_addVariant_21 : decode cL_addVariant 21 = .ok (.astore 6, 2) := by decide +kernel
theorem dL_addVariant_23 : decode cL_addVariant 23 = .ok (.iconst 2, 1) := by decide +kernel
theorem dL_addVariant_24 : decode cL_addVariant 24 = .ok (.ireturn, 1) := by decide +kernel
theorem dL_addVariant_25 : decode cL_addVariant 25 = .ok (.iconst 0, 1) := by decide +kernel
theorem dL_addVariant_26 : decode cL_addVariant 26 = .ok (.ireturn, 1) := by decide +kernel
set_option maxRecDepth 20000 in
theorem ggL_turnPass_X2_turnPass : GoodIn wsL_turnPass wsX2_turnPass := goodIn_ca (goodIn_ca (goodIn_r _ [7, 8, 9, 10, 11, 12, 13, 6, 14, 15, 16, 17, 18, 19, 20, 21, 22, 23, 24, 25, 26, 27, 28, 29, 30, 31, 32, 33, 34, 35, 36, 37, 38] (by decide +kernel) (by decide +kernel)) (goodIn_sub (fun _ h => List.mem_cons_of_mem _ (List.mem_append_left _ (List.mem_append_right _ h))) (by decide +kernel))) (goodIn_sub (fun _ h => List.mem_cons_of_mem _ (List.mem_append_right _ h)) (by decide +kernel))
set_option maxRecDepth 20000 in
theorem gL_turnPass_X2_turnPass : GoodIn wsL_turnPass (wsV RL 25 RX2 yX2_turnPass wsX2_turnPass) := goodIn_app (goodIn_of _ (by decide +kernel)) ggL_turnPass_X2_turnPass
theorem dL_turnPass_0 : decode cL_turnPass 0 = .ok (.aload_n 3, 1) := by decide +kernel
theorem dL_turnPass_1 : decode cL_turnPass 1 = .ok (.iconst 0, 1) := by decide +kernel
theorem dL_turnPass_2 : decode cL_turnPass 2 = .ok (.aload_n 0, 1) := by decide +kernel
theorem dL_turnPass_3 : decode cL_turnPass 3 = .ok (.iload_n 1, 1) := by decide +kernel
theorem dL_turnPass_4 : decode cL_turnPass 4 = .ok (.iload_n 2, 1) := by decide +kernel
theorem dL_turnPass_5 : decode cL_turnPass 5 = .ok (.invokevirtual 25, 3) := by decide +kernel
theorem dL_turnPass_8 : decode cL_turnPass 8 = .ok (.ifCond .eq 7, 3) := by decide +kernel
theorem dL_turnPass_11 : decode cL_turnPass 11 = .ok (.lconst 1, 1) := by decide +kernel
theorem dL_turnPass_12 : decode cL_turnPass 12 = .ok (.goto 4, 3) := by decide +kernel
theorem dL_turnPass_15 : decode cL_turnPass 15 = .ok (.lconst 0, 1) := by decide +kernel
theorem dL_turnPass_16 : decode cL_turnPass 16 = .ok (.lastore, 1) := by decide +kernel
theorem dL_turnPass_17 : decode cL_turnPass 17 = .ok (.goto 11, 3) := by decide +kernel
theorem dL_turnPass_20 : decode cL_turnPass 20 = .ok (.astore 4, 2) := by decide +kernel
theorem dL_turnPass_22 : decode cL_turnPass 22 = .ok (.iconst 1, 1) := by decide +kernel
theorem dL_turnPass_23 : decode cL_turnPass 23 = .ok (.ireturn, 1) := by decide +kernel
theorem dL_turnPass_24 : decode cL_turnPass 24 = .ok (.astore 4, 2) := by decide +kernel
theorem dL_turnPass_26 : decode cL_turnPass 26 = .ok (.iconst 2, 1) := by decide +kernel
theorem dL_turnPass_27 : decode cL_turnPass 27 = .ok (.ireturn, 1) := by decide +kernel
theorem dL_turnPass_28 : decode cL_turnPass 28 = .ok (.iconst 0, 1) := by decide +kernel
theorem dL_turnPass_29 : decode cL_turnPass 29 = .ok (.ireturn, 1) := by decide +kernel
set_option maxRecDepth 20000 in
theorem ggL_turnMoral_X2_turnMoral : GoodIn wsL_turnMoral wsX2_turnMoral := goodIn_ca (goodIn_r _ [6, 7, 8, 9, 10, 5, 11, 12, 13, 14, 15, 16, 17, 18, 19, 20, 21, 22, 23, 24, 25, 26, 27, 28, 29, 30, 31, 32, 33] (by decide +kernel) (by decide +kernel)) (goodIn_sub (fun _ h => List.mem_cons_of_mem _ (List.mem_append_right _ h)) (by decide +kernel))
set_option maxRecDepth 20000 in
theorem gL_turnMoral_X2_turnMoral : GoodIn wsL_turnMoral (wsV RL 31 RX2 yX2_turnMoral wsX2_turnMoral) := goodIn_app (goodIn_of _ (by decide +kernel)) ggL_turnMoral_X2_turnMoral
theorem dL_turnMoral_0 : decode cL_turnMoral 0 = .ok (.aload_n 3, 1) := by decide +kernel
theorem dL_turnMoral_1 : decode cL_turnMoral 1 = .ok (.iconst 0, 1) := by decide +kernel
theorem dL_turnMoral_2 : decode cL_turnMoral 2 = .ok (.aload_n 0, 1) := by decide +kernel
theorem dL_turnMoral_3 : decode cL_turnMoral 3 = .ok (.iload_n 1, 1) := by decide +kernel
theorem dL_turnMoral_4 : decode cL_turnMoral 4 = .ok (.iload_n 2, 1) := by decide +kernel
theorem dL_turnMoral_5 : decode cL_turnMoral 5 = .ok (.invokevirtual 31, 3) := by decide +kernel
theorem dL_turnMoral_8 : decode cL_turnMoral 8 = .ok (.ifCond .eq 7, 3) := by decide +kernel
theorem dL_turnMoral_11 : decode cL_turnMoral 11 = .ok (.lconst 1, 1) := by decide +kernel
theorem dL_turnMoral_12 : decode cL_turnMoral 12 = .ok (.goto 4, 3) := by decide +kernel
theorem dL_turnMoral_15 : decode cL_turnMoral 15 = .ok (.lconst 0, 1) := by decide +kernel
theorem dL_turnMoral_16 : decode cL_turnMoral 16 = .ok (.lastore, 1) := by decide +kernel
theorem dL_turnMoral_17 : decode cL_turnMoral 17 = .ok (.goto 7, 3) := by decide +kernel
theorem dL_turnMoral_20 : decode cL_turnMoral 20 = .ok (.astore 4, 2) := by decide +kernel
theorem dL_turnMoral_22 : decode cL_turnMoral 22 = .ok (.iconst 1, 1) := by decide +kernel
theorem dL_turnMoral_23 : decode cL_turnMoral 23 = .ok (.ireturn, 1) := by decide +kernel
theorem dL_turnMoral_24 : decode cL_turnMoral 24 = .ok (.iconst 0, 1) := by decide +kernel
theorem dL_turnMoral_25 : decode cL_turnMoral 25 = .ok (.ireturn, 1) := by decide +kernel
set_option maxRecDepth 20000 in
theorem ggL_turnBeast_X2_turnBeast : GoodIn wsL_turnBeast wsX2_turnBeast := goodIn_ca (goodIn_r _ [6, 7, 8, 9, 10, 5, 11, 12, 13, 14, 15, 16, 17, 18, 19, 20, 21, 22, 23, 24, 25, 26, 27, 28, 29, 30, 31, 32, 33] (by decide +kernel) (by decide +kernel)) (goodIn_sub (fun _ h => List.mem_cons_of_mem _ (List.mem_append_right _ h)) (by decide +kernel))
set_option maxRecDepth 20000 in
theorem gL_turnBeast_X2_turnBeast : GoodIn wsL_turnBeast (wsV RL 34 RX2 yX2_turnBeast wsX2_turnBeast) := goodIn_app (goodIn_of _ (by decide +kernel)) ggL_turnBeast_X2_turnBeast
theorem dL_turnBeast_0 : decode cL_turnBeast 0 = .ok (.aload_n 3, 1) := by decide +kernel
theorem dL_turnBeast_1 : decode cL_turnBeast 1 = .ok (.iconst 0, 1) := by decide +kernel
theorem dL_turnBeast_2 : decode cL_turnBeast 2 = .ok (.aload_n 0, 1) := by decide +kernel
theorem dL_turnBeast_3 : decode cL_turnBeast 3 = .ok (.iload_n 1, 1) := by decide +kernel
theorem dL_turnBeast_4 : decode cL_turnBeast 4 = .ok (.iload_n 2, 1) := by decide +kernel
theorem dL_turnBeast_5 : decode cL_turnBeast 5 = .ok (.invokevirtual 34, 3) := by decide +kernel
theorem dL_turnBeast_8 : decode cL_turnBeast 8 = .ok (.ifCond .eq 7, 3) := by decide +kernel
theorem dL_turnBeast_11 : decode cL_turnBeast 11 = .ok (.lconst 1, 1) := by decide +kernel
theorem dL_turnBeast_12 : decode cL_turnBeast 12 = .ok (.goto 4, 3) := by decide +kernel
theorem dL_turnBeast_15 : decode cL_turnBeast 15 = .ok (.lconst 0, 1) := by decide +kernel
theorem dL_turnBeast_16 : decode cL_turnBeast 16 = .ok (.lastore, 1) := by decide +kernel
theorem dL_turnBeast_17 : decode cL_turnBeast 17 = .ok (.goto 7, 3) := by decide +kernel
theorem dL_turnBeast_20 : decode cL_turnBeast 20 = .ok (.astore 4, 2) := by decide +kernel
theorem dL_turnBeast_22 : decode cL_turnBeast 22 = .ok (.iconst 1, 1) := by decide +kernel
theorem dL_turnBeast_23 : decode cL_turnBeast 23 = .ok (.ireturn, 1) := by decide +kernel
theorem dL_turnBeast_24 : decode cL_turnBeast 24 = .ok (.iconst 0, 1) := by decide +kernel
theorem dL_turnBeast_25 : decode cL_turnBeast 25 = .ok (.ireturn, 1) := by decide +kernel
set_option maxRecDepth 20000 in
theorem ggL_tell_X2_tell : GoodIn wsL_tell wsX2_tell := goodIn_ca (goodIn_ca (goodIn_r _ [7, 8, 9, 10, 11, 12, 13, 14, 15, 6, 16, 17, 18, 19, 20, 21, 22, 23, 24, 25, 26, 27, 28, 29, 30, 31, 32, 33, 34, 35, 36, 37, 38, 39, 40, 41, 42, 43, 44, 45, 46, 47, 48, 49, 50, 51, 52, 53, 54, 55, 56, 57, 58, 59, 60, 61, 62, 63, 64, 65, 66] (by decide +kernel) (by decide +kernel)) (goodIn_sub (fun _ h => List.mem_cons_of_mem _ (List.mem_append_left _ (List.mem_append_right _ h))) (by decide +kernel))) (goodIn_sub (fun _ h => List.mem_cons_of_mem _ (List.mem_append_right _ h)) (by decide +kernel))
set_option maxRecDepth 20000 in
theorem gL_tell_X2_tell : GoodIn wsL_tell (wsV RL 37 RX2 yX2_tell wsX2_tell) := goodIn_app (goodIn_of _ (by decide +kernel)) ggL_tell_X2_tell
theorem dL_tell_0 : decode cL_tell 0 = .ok (.aload_n 3, 1) := by decide +kernel
theorem dL_tell_1 : decode cL_tell 1 = .ok (.iconst 0, 1) := by decide +kernel
theorem dL_tell_2 : decode cL_tell 2 = .ok (.aload_n 0, 1) := by decide +kernel
theorem dL_tell_3 : decode cL_tell 3 = .ok (.iload_n 1, 1) := by decide +kernel
theorem dL_tell_4 : decode cL_tell 4 = .ok (.iload_n 2, 1) := by decide +kernel
theorem dL_tell_5 : decode cL_tell 5 = .ok (.invokevirtual 37, 3) := by decide +kernel
theorem dL_tell_8 : decode cL_tell 8 = .ok (.i2l, 1) := by decide +kernel
theorem dL_tell_9 : decode cL_tell 9 = .ok (.lastore, 1) := by decide +kernel
theorem dL_tell_10 : decode cL_tell 10 = .ok (.goto 11, 3) := by decide +kernel
theorem dL_tell_13 : decode cL_tell 13 = .ok (.astore 4, 2) := by decide +kernel
theorem dL_tell_15 : decode cL_tell 15 = .ok (.iconst 1, 1) := by decide +kernel
theorem dL_tell_16 : decode cL_tell 16 = .ok (.ireturn, 1) := by decide +kernel
theorem dL_tell_17 : decode cL_tell 17 = .ok (.astore 4, 2) := by decide +kernel
theorem dL_tell_19 : decode cL_tell 19 = .ok (.iconst 2, 1) := by decide +kernel
theorem dL_tell_20 : decode cL_tell 20 = .ok (.ireturn, 1) := by decide +kernel
theorem dL_tell_21 : decode cL_tell 21 = .ok (.iconst 0, 1) := by decide +kernel
theorem dL_tell_22 : decode cL_tell 22 = .ok (.ireturn, 1) := by decide +kernel
set_option maxRecDepth 20000 in
theorem ggL_forget_X2_forget : GoodIn wsL_forget wsX2_forget := goodIn_ca (goodIn_ca (goodIn_r _ [7, 8, 9, 10, 11, 12, 13, 14, 6, 15, 16, 17, 18, 19, 20, 21, 22, 23, 24, 25, 26, 27, 28, 29, 30, 31, 32, 33, 34, 35, 36, 37, 38, 39, 40, 41, 42, 43, 44, 45, 46, 47, 48, 49, 50, 51, 52, 53, 54, 55, 56, 57, 58, 59, 60, 61] (by decide +kernel) (by decide +kernel)) (goodIn_sub (fun _ h => List.mem_cons_of_mem _ (List.mem_append_left _ (List.mem_append_right _ h))) (by decide +kernel))) (goodIn_sub (fun _ h => List.mem_cons_of_mem _ (List.mem_append_right _ h)) (by decide +kernel))
set_option maxRecDepth 20000 in
theorem gL_forget_X2_forget : GoodIn wsL_forget (wsV RL 40 RX2 yX2_forget wsX2_forget) := goodIn_app (goodIn_of _ (by decide +kernel)) ggL_forget_X2_forget
theorem dL_forget_0 : decode cL_forget 0 = .ok (.aload_n 3, 1) := by decide +kernel
theorem dL_forget_1 : decode cL_forget 1 = .ok (.iconst 0, 1) := by decide +kernel
theorem dL_forget_2 : decode cL_forget 2 = .ok (.aload_n 0, 1) := by decide +kernel
theorem dL_forget_3 : decode cL_forget 3 = .ok (.iload_n 1, 1) := by decide +kernel
theorem dL_forget_4 : decode cL_forget 4 = .ok (.iload_n 2, 1) := by decide +kernel
theorem dL_forget_5 : decode cL_forget 5 = .ok (.invokevirtual 40, 3) := by decide +kernel
theorem dL_forget_8 : decode cL_forget 8 = .ok (.i2l, 1) := by decide +kernel
theorem dL_forget_9 : decode cL_forget 9 = .ok (.lastore, 1) := by decide +kernel
theorem dL_forget_10 : decode cL_forget 10 = .ok (.goto 11, 3) := by decide +kernel
theorem dL_forget_13 : decode cL_forget 13 = .ok (.astore 4, 2) := by decide +kernel
theorem dL_forget_15 : decode cL_forget 15 = .ok (.iconst 1, 1) := by decide +kernel
theorem dL_forget_16 : decode cL_forget 16 = .ok (.ireturn, 1) := by decide +kernel
theorem dL_forget_17 : decode cL_forget 17 = .ok (.astore 4, 2) := by decide +kernel
theorem dL_forget_19 : decode cL_forget 19 = .ok (.iconst 2, 1) := by decide +kernel
theorem dL_forget_20 : decode cL_forget 20 = .ok (.ireturn, 1) := by decide +kernel
theorem dL_forget_21 : decode cL_forget 21 = .ok (.iconst 0, 1) := by decide +kernel
theorem dL_forget_22 : decode cL_forget 22 = .ok (.ireturn, 1) := by decide +kernel
set_option maxRecDepth 20000 in
theorem ggL_passSeasons_X2_passSeasons : GoodIn wsL_passSeasons wsX2_passSeasons := goodIn_ca (goodIn_r _ [6, 7, 8, 9, 10, 11, 5, 12, 13, 14, 15, 16, 17, 18, 19, 20, 21, 22, 23, 24, 25, 26, 27, 28, 29, 30, 31, 32, 33, 34, 35, 36, 37, 38, 39, 40, 41, 42, 43, 44, 45, 46, 47, 48, 49, 50, 51, 52, 53, 54, 55, 56, 57, 58, 59, 60, 61, 62, 63, 64, 65, 66, 67, 68, 69, 70, 71, 72, 73, 74, 75, 76, 77, 78, 79, 80, 81, 82, 83, 84, 85, 86, 87, 88, 89, 90, 91, 92, 93, 94, 95] (by decide +kernel) (by decide +kernel)) (goodIn_sub (fun _ h => List.mem_cons_of_mem _ (List.mem_append_right _ h)) (by decide +kernel))
set_option maxRecDepth 20000 in
theorem gL_passSeasons_X2_passSeasons : GoodIn wsL_passSeasons (wsV RL 43 RX2 yX2_passSeasons wsX2_passSeasons) := goodIn_app (goodIn_of _ (by decide +kernel)) ggL_passSeasons_X2_passSeasons
theorem dL_passSeasons_0 : decode cL_passSeasons 0 = .ok (.aload_n 2, 1) := by decide +kernel
theorem dL_passSeasons_1 : decode cL_passSeasons 1 = .ok (.iconst 0, 1) := by decide +kernel
theorem dL_passSeasons_2 : decode cL_passSeasons 2 = .ok (.aload_n 0, 1) := by decide +kernel
theorem dL_passSeasons_3 : decode cL_passSeasons 3 = .ok (.iload_n 1, 1) := by decide +kernel
theorem dL_passSeasons_4 : decode cL_passSeasons 4 = .ok (.invokevirtual 43, 3) := by decide +kernel
theorem dL_passSeasons_7 : decode cL_passSeasons 7 = .ok (.i2l, 1) := by decide +kernel
theorem dL_passSeasons_8 : decode cL_passSeasons 8 = .ok (.lastore, 1) := by decide +kernel
theorem dL_passSeasons_9 : decode cL_passSeasons 9 = .ok (.goto 6, 3) := by decide +kernel
theorem dL_passSeasons_12 : decode cL_passSeasons 12 = .ok (.astore_n 3, 1) := by decide +kernel
theorem dL_passSeasons_13 : decode cL_passSeasons 13 = .ok (.iconst 1, 1) := by decide +kernel
theorem dL_passSeasons_14 : decode cL_passSeasons 14 = .ok (.ireturn, 1) := by decide +kernel
theorem dL_passSeasons_15 : decode cL_passSeasons 15 = .ok (.iconst 0, 1) := by decide +kernel
theorem dL_passSeasons_16 : decode cL_passSeasons 16 = .ok (.ireturn, 1) := by decide +kernel
set_option maxRecDepth 20000 in
theorem ggL_moralOf_X2_moralOf : GoodIn wsL_moralOf wsX2_moralOf := goodIn_ca (goodIn_r _ [6, 7, 8, 9, 10, 11, 5, 12, 13, 14, 15, 16, 17, 18, 19, 20, 21, 22, 23, 24, 25, 26] (by decide +kernel) (by decide +kernel)) (goodIn_sub (fun _ h => List.mem_cons_of_mem _ (List.mem_append_right _ h)) (by decide +kernel))
set_option maxRecDepth 20000 in
theorem gL_moralOf_X2_moralOf : GoodIn wsL_moralOf (wsV RL 47 RX2 yX2_moralOf wsX2_moralOf) := goodIn_app (goodIn_of _ (by decide +kernel)) ggL_moralOf_X2_moralOf
theorem dL_moralOf_0 : decode cL_moralOf 0 = .ok (.aload_n 2, 1) := by decide +kernel
theorem dL_moralOf_1 : decode cL_moralOf 1 = .ok (.iconst 0, 1) := by decide +kernel
theorem dL_moralOf_2 : decode cL_moralOf 2 = .ok (.aload_n 0, 1) := by decide +kernel
theorem dL_moralOf_3 : decode cL_moralOf 3 = .ok (.iload_n 1, 1) := by decide +kernel
theorem dL_moralOf_4 : decode cL_moralOf 4 = .ok (.invokevirtual 47, 3) := by decide +kernel
theorem dL_moralOf_7 : decode cL_moralOf 7 = .ok (.i2l, 1) := by decide +kernel
theorem dL_moralOf_8 : decode cL_moralOf 8 = .ok (.lastore, 1) := by decide +kernel
theorem dL_moralOf_9 : decode cL_moralOf 9 = .ok (.goto 6, 3) := by decide +kernel
theorem dL_moralOf_12 : decode cL_moralOf 12 = .ok (.astore_n 3, 1) := by decide +kernel
theorem dL_moralOf_13 : decode cL_moralOf 13 = .ok (.iconst 1, 1) := by decide +kernel
theorem dL_moralOf_14 : decode cL_moralOf 14 = .ok (.ireturn, 1) := by decide +kernel
theorem dL_moralOf_15 : decode cL_moralOf 15 = .ok (.iconst 0, 1) := by decide +kernel
theorem dL_moralOf_16 : decode cL_moralOf 16 = .ok (.ireturn, 1) := by decide +kernel
set_option maxRecDepth 20000 in
theorem ggL_beastsOf_X2_beastsOf : GoodIn wsL_beastsOf wsX2_beastsOf := goodIn_ca (goodIn_r _ [6, 7, 8, 9, 10, 11, 5, 12, 13, 14, 15, 16, 17, 18, 19, 20, 21, 22, 23, 24, 25, 26, 27, 28, 29, 30, 31, 32, 33, 34, 35, 36] (by decide +kernel) (by decide +kernel)) (goodIn_sub (fun _ h => List.mem_cons_of_mem _ (List.mem_append_right _ h)) (by decide +kernel))
set_option maxRecDepth 20000 in
theorem gL_beastsOf_X2_beastsOf : GoodIn wsL_beastsOf (wsV RL 50 RX2 yX2_beastsOf wsX2_beastsOf) := goodIn_app (goodIn_of _ (by decide +kernel)) ggL_beastsOf_X2_beastsOf
theorem dL_beastsOf_0 : decode cL_beastsOf 0 = .ok (.aload_n 2, 1) := by decide +kernel
theorem dL_beastsOf_1 : decode cL_beastsOf 1 = .ok (.iconst 0, 1) := by decide +kernel
theorem dL_beastsOf_2 : decode cL_beastsOf 2 = .ok (.aload_n 0, 1) := by decide +kernel
theorem dL_beastsOf_3 : decode cL_beastsOf 3 = .ok (.iload_n 1, 1) := by decide +kernel
theorem dL_beastsOf_4 : decode cL_beastsOf 4 = .ok (.invokevirtual 50, 3) := by decide +kernel
theorem dL_beastsOf_7 : decode cL_beastsOf 7 = .ok (.i2l, 1) := by decide +kernel
theorem dL_beastsOf_8 : decode cL_beastsOf 8 = .ok (.lastore, 1) := by decide +kernel
theorem dL_beastsOf_9 : decode cL_beastsOf 9 = .ok (.goto 6, 3) := by decide +kernel
theorem dL_beastsOf_12 : decode cL_beastsOf 12 = .ok (.astore_n 3, 1) := by decide +kernel
theorem dL_beastsOf_13 : decode cL_beastsOf 13 = .ok (.iconst 1, 1) := by decide +kernel
theorem dL_beastsOf_14 : decode cL_beastsOf 14 = .ok (.ireturn, 1) := by decide +kernel
theorem dL_beastsOf_15 : decode cL_beastsOf 15 = .ok (.iconst 0, 1) := by decide +kernel
theorem dL_beastsOf_16 : decode cL_beastsOf 16 = .ok (.ireturn, 1) := by decide +kernel
set_option maxRecDepth 20000 in
theorem ggL_hasBeast_X2_hasBeast : GoodIn wsL_hasBeast wsX2_hasBeast := goodIn_ca (goodIn_r _ [6, 7, 8, 9, 10, 11, 5, 12, 13, 14, 15, 16, 17, 18, 19, 20, 21, 22, 23, 24, 25, 26, 27, 28, 29, 30, 31, 32] (by decide +kernel) (by decide +kernel)) (goodIn_sub (fun _ h => List.mem_cons_of_mem _ (List.mem_append_right _ h)) (by decide +kernel))
set_option maxRecDepth 20000 in
theorem gL_hasBeast_X2_hasBeast : GoodIn wsL_hasBeast (wsV RL 53 RX2 yX2_hasBeast wsX2_hasBeast) := goodIn_app (goodIn_of _ (by decide +kernel)) ggL_hasBeast_X2_hasBeast
theorem dL_hasBeast_0 : decode cL_hasBeast 0 = .ok (.aload_n 3, 1) := by decide +kernel
theorem dL_hasBeast_1 : decode cL_hasBeast 1 = .ok (.iconst 0, 1) := by decide +kernel
theorem dL_hasBeast_2 : decode cL_hasBeast 2 = .ok (.aload_n 0, 1) := by decide +kernel
theorem dL_hasBeast_3 : decode cL_hasBeast 3 = .ok (.iload_n 1, 1) := by decide +kernel
theorem dL_hasBeast_4 : decode cL_hasBeast 4 = .ok (.iload_n 2, 1) := by decide +kernel
theorem dL_hasBeast_5 : decode cL_hasBeast 5 = .ok (.invokevirtual 53, 3) := by decide +kernel
theorem dL_hasBeast_8 : decode cL_hasBeast 8 = .ok (.ifCond .eq 7, 3) := by decide +kernel
theorem dL_hasBeast_11 : decode cL_hasBeast 11 = .ok (.lconst 1, 1) := by decide +kernel
theorem dL_hasBeast_12 : decode cL_hasBeast 12 = .ok (.goto 4, 3) := by decide +kernel
theorem dL_hasBeast_15 : decode cL_hasBeast 15 = .ok (.lconst 0, 1) := by decide +kernel
theorem dL_hasBeast_16 : decode cL_hasBeast 16 = .ok (.lastore, 1) := by decide +kernel
theorem dL_hasBeast_17 : decode cL_hasBeast 17 = .ok (.goto 7, 3) := by decide +kernel
theorem dL_hasBeast_20 : decode cL_hasBeast 20 = .ok (.astore 4, 2) := by decide +kernel
theorem dL_hasBeast_22 : decode cL_hasBeast 22 = .ok (.iconst 1, 1) := by decide +kernel
theorem dL_hasBeast_23 : decode cL_hasBeast 23 = .ok (.ireturn, 1) := by decide +kernel
theorem dL_hasBeast_24 : decode cL_hasBeast 24 = .ok (.iconst 0, 1) := by decide +kernel
theorem dL_hasBeast_25 : decode cL_hasBeast 25 = .ok (.ireturn, 1) := by decide +kernel
set_option maxRecDepth 20000 in
theorem ggL_homeOf_X2_homeOf : GoodIn wsL_homeOf wsX2_homeOf := goodIn_ca (goodIn_r _ [6, 7, 8, 9, 10, 11, 5, 12, 13, 14, 15, 16, 17, 18, 19, 20, 21, 22, 23, 24, 25, 26] (by decide +kernel) (by decide +kernel)) (goodIn_sub (fun _ h => List.mem_cons_of_mem _ (List.mem_append_right _ h)) (by decide +kernel))
set_option maxRecDepth 20000 in
theorem gL_homeOf_X2_homeOf : GoodIn wsL_homeOf (wsV RL 56 RX2 yX2_homeOf wsX2_homeOf) := goodIn_app (goodIn_of _ (by decide +kernel)) ggL_homeOf_X2_homeOf
theorem dL_homeOf_0 : decode cL_homeOf 0 = .ok (.aload_n 2, 1) := by decide +kernel
theorem dL_homeOf_1 : decode cL_homeOf 1 = .ok (.iconst 0, 1) := by decide +kernel
theorem dL_homeOf_2 : decode cL_homeOf 2 = .ok (.aload_n 0, 1) := by decide +kernel
theorem dL_homeOf_3 : decode cL_homeOf 3 = .ok (.iload_n 1, 1) := by decide +kernel
theorem dL_homeOf_4 : decode cL_homeOf 4 = .ok (.invokevirtual 56, 3) := by decide +kernel
theorem dL_homeOf_7 : decode cL_homeOf 7 = .ok (.i2l, 1) := by decide +kernel
theorem dL_homeOf_8 : decode cL_homeOf 8 = .ok (.lastore, 1) := by decide +kernel
theorem dL_homeOf_9 : decode cL_homeOf 9 = .ok (.goto 6, 3) := by decide +kernel
theorem dL_homeOf_12 : decode cL_homeOf 12 = .ok (.astore_n 3, 1) := by decide +kernel
theorem dL_homeOf_13 : decode cL_homeOf 13 = .ok (.iconst 1, 1) := by decide +kernel
theorem dL_homeOf_14 : decode cL_homeOf 14 = .ok (.ireturn, 1) := by decide +kernel
theorem dL_homeOf_15 : decode cL_homeOf 15 = .ok (.iconst 0, 1) := by decide +kernel
theorem dL_homeOf_16 : decode cL_homeOf 16 = .ok (.ireturn, 1) := by decide +kernel
set_option maxRecDepth 20000 in
theorem ggL_parentOf_X2_parentOf : GoodIn wsL_parentOf wsX2_parentOf := goodIn_ca (goodIn_r _ [6, 7, 8, 9, 10, 11, 5, 12, 13, 14, 15, 16, 17, 18, 19, 20, 21, 22, 23, 24, 25, 26] (by decide +kernel) (by decide +kernel)) (goodIn_sub (fun _ h => List.mem_cons_of_mem _ (List.mem_append_right _ h)) (by decide +kernel))
set_option maxRecDepth 20000 in
theorem gL_parentOf_X2_parentOf : GoodIn wsL_parentOf (wsV RL 59 RX2 yX2_parentOf wsX2_parentOf) := goodIn_app (goodIn_of _ (by decide +kernel)) ggL_parentOf_X2_parentOf
theorem dL_parentOf_0 : decode cL_parentOf 0 = .ok (.aload_n 2, 1) := by decide +kernel
theorem dL_parentOf_1 : decode cL_parentOf 1 = .ok (.iconst 0, 1) := by decide +kernel
theorem dL_parentOf_2 : decode cL_parentOf 2 = .ok (.aload_n 0, 1) := by decide +kernel
theorem dL_parentOf_3 : decode cL_parentOf 3 = .ok (.iload_n 1, 1) := by decide +kernel
theorem dL_parentOf_4 : decode cL_parentOf 4 = .ok (.invokevirtual 59, 3) := by decide +kernel
theorem dL_parentOf_7 : decode cL_parentOf 7 = .ok (.i2l, 1) := by decide +kernel
theorem dL_parentOf_8 : decode cL_parentOf 8 = .ok (.lastore, 1) := by decide +kernel
theorem dL_parentOf_9 : decode cL_parentOf 9 = .ok (.goto 6, 3) := by decide +kernel
theorem dL_parentOf_12 : decode cL_parentOf 12 = .ok (.astore_n 3, 1) := by decide +kernel
theorem dL_parentOf_13 : decode cL_parentOf 13 = .ok (.iconst 1, 1) := by decide +kernel
theorem dL_parentOf_14 : decode cL_parentOf 14 = .ok (.ireturn, 1) := by decide +kernel
theorem dL_parentOf_15 : decode cL_parentOf 15 = .ok (.iconst 0, 1) := by decide +kernel
theorem dL_parentOf_16 : decode cL_parentOf 16 = .ok (.ireturn, 1) := by decide +kernel
set_option maxRecDepth 20000 in
theorem ggL_variantsOf_X2_variantsOf : GoodIn wsL_variantsOf wsX2_variantsOf := goodIn_ca (goodIn_r _ [6, 7, 8, 9, 10, 11, 5, 12, 13, 14, 15, 16, 17, 18, 19, 20, 21, 22, 23, 24, 25, 26, 27, 28, 29, 30, 31, 32, 33, 34, 35, 36] (by decide +kernel) (by decide +kernel)) (goodIn_sub (fun _ h => List.mem_cons_of_mem _ (List.mem_append_right _ h)) (by decide +kernel))
set_option maxRecDepth 20000 in
theorem gL_variantsOf_X2_variantsOf : GoodIn wsL_variantsOf (wsV RL 62 RX2 yX2_variantsOf wsX2_variantsOf) := goodIn_app (goodIn_of _ (by decide +kernel)) ggL_variantsOf_X2_variantsOf
theorem dL_variantsOf_0 : decode cL_variantsOf 0 = .ok (.aload_n 2, 1) := by decide +kernel
theorem dL_variantsOf_1 : decode cL_variantsOf 1 = .ok (.iconst 0, 1) := by decide +kernel
theorem dL_variantsOf_2 : decode cL_variantsOf 2 = .ok (.aload_n 0, 1) := by decide +kernel
theorem dL_variantsOf_3 : decode cL_variantsOf 3 = .ok (.iload_n 1, 1) := by decide +kernel
theorem dL_variantsOf_4 : decode cL_variantsOf 4 = .ok (.invokevirtual 62, 3) := by decide +kernel
theorem dL_variantsOf_7 : decode cL_variantsOf 7 = .ok (.i2l, 1) := by decide +kernel
theorem dL_variantsOf_8 : decode cL_variantsOf 8 = .ok (.lastore, 1) := by decide +kernel
theorem dL_variantsOf_9 : decode cL_variantsOf 9 = .ok (.goto 6, 3) := by decide +kernel
theorem dL_variantsOf_12 : decode cL_variantsOf 12 = .ok (.astore_n 3, 1) := by decide +kernel
theorem dL_variantsOf_13 : decode cL_variantsOf 13 = .ok (.iconst 1, 1) := by decide +kernel
theorem dL_variantsOf_14 : decode cL_variantsOf 14 = .ok (.ireturn, 1) := by decide +kernel
theorem dL_variantsOf_15 : decode cL_variantsOf 15 = .ok (.iconst 0, 1) := by decide +kernel
theorem dL_variantsOf_16 : decode cL_variantsOf 16 = .ok (.ireturn, 1) := by decide +kernel
set_option maxRecDepth 20000 in
theorem ggL_valleysOf_X2_valleysOf : GoodIn wsL_valleysOf wsX2_valleysOf := goodIn_ca (goodIn_r _ [6, 7, 8, 9, 10, 5, 11, 12, 13, 14, 15, 16, 17, 18, 19, 20, 21, 22, 23, 24, 25, 26, 27, 28, 29, 30, 31, 32, 33, 34, 35, 36, 37, 38, 39, 40, 41, 42, 43, 44, 45, 46, 47, 48] (by decide +kernel) (by decide +kernel)) (goodIn_sub (fun _ h => List.mem_cons_of_mem _ (List.mem_append_right _ h)) (by decide +kernel))
set_option maxRecDepth 20000 in
theorem gL_valleysOf_X2_valleysOf : GoodIn wsL_valleysOf (wsV RL 65 RX2 yX2_valleysOf wsX2_valleysOf) := goodIn_app (goodIn_of _ (by decide +kernel)) ggL_valleysOf_X2_valleysOf
theorem dL_valleysOf_0 : decode cL_valleysOf 0 = .ok (.aload_n 2, 1) := by decide +kernel
theorem dL_valleysOf_1 : decode cL_valleysOf 1 = .ok (.iconst 0, 1) := by decide +kernel
theorem dL_valleysOf_2 : decode cL_valleysOf 2 = .ok (.aload_n 0, 1) := by decide +kernel
theorem dL_valleysOf_3 : decode cL_valleysOf 3 = .ok (.iload_n 1, 1) := by decide +kernel
theorem dL_valleysOf_4 : decode cL_valleysOf 4 = .ok (.invokevirtual 65, 3) := by decide +kernel
theorem dL_valleysOf_7 : decode cL_valleysOf 7 = .ok (.i2l, 1) := by decide +kernel
theorem dL_valleysOf_8 : decode cL_valleysOf 8 = .ok (.lastore, 1) := by decide +kernel
theorem dL_valleysOf_9 : decode cL_valleysOf 9 = .ok (.goto 6, 3) := by decide +kernel
theorem dL_valleysOf_12 : decode cL_valleysOf 12 = .ok (.astore_n 3, 1) := by decide +kernel
theorem dL_valleysOf_13 : decode cL_valleysOf 13 = .ok (.iconst 1, 1) := by decide +kernel
theorem dL_valleysOf_14 : decode cL_valleysOf 14 = .ok (.ireturn, 1) := by decide +kernel
theorem dL_valleysOf_15 : decode cL_valleysOf 15 = .ok (.iconst 0, 1) := by decide +kernel
theorem dL_valleysOf_16 : decode cL_valleysOf 16 = .ok (.ireturn, 1) := by decide +kernel
set_option maxRecDepth 20000 in
theorem ggL_nearestAncestor_X2_nearestAncestor : GoodIn wsL_nearestAncestor wsX2_nearestAncestor := goodIn_ca (goodIn_r _ [6, 7, 8, 9, 10, 11, 5, 12, 13, 14, 15, 16, 17, 18, 19, 20, 21, 22, 23, 24, 25, 26, 27, 28, 29, 30, 31, 32] (by decide +kernel) (by decide +kernel)) (goodIn_sub (fun _ h => List.mem_cons_of_mem _ (List.mem_append_right _ h)) (by decide +kernel))
set_option maxRecDepth 20000 in
theorem gL_nearestAncestor_X2_nearestAncestor : GoodIn wsL_nearestAncestor (wsV RL 68 RX2 yX2_nearestAncestor wsX2_nearestAncestor) := goodIn_app (goodIn_of _ (by decide +kernel)) ggL_nearestAncestor_X2_nearestAncestor
theorem dL_nearestAncestor_0 : decode cL_nearestAncestor 0 = .ok (.aload_n 3, 1) := by decide +kernel
theorem dL_nearestAncestor_1 : decode cL_nearestAncestor 1 = .ok (.iconst 0, 1) := by decide +kernel
theorem dL_nearestAncestor_2 : decode cL_nearestAncestor 2 = .ok (.aload_n 0, 1) := by decide +kernel
theorem dL_nearestAncestor_3 : decode cL_nearestAncestor 3 = .ok (.iload_n 1, 1) := by decide +kernel
theorem dL_nearestAncestor_4 : decode cL_nearestAncestor 4 = .ok (.iload_n 2, 1) := by decide +kernel
theorem dL_nearestAncestor_5 : decode cL_nearestAncestor 5 = .ok (.invokevirtual 68, 3) := by decide +kernel
theorem dL_nearestAncestor_8 : decode cL_nearestAncestor 8 = .ok (.i2l, 1) := by decide +kernel
theorem dL_nearestAncestor_9 : decode cL_nearestAncestor 9 = .ok (.lastore, 1) := by decide +kernel
theorem dL_nearestAncestor_10 : decode cL_nearestAncestor 10 = .ok (.goto 7, 3) := by decide +kernel
theorem dL_nearestAncestor_13 : decode cL_nearestAncestor 13 = .ok (.astore 4, 2) := by decide +kernel
theorem dL_nearestAncestor_15 : decode cL_nearestAncestor 15 = .ok (.iconst 1, 1) := by decide +kernel
theorem dL_nearestAncestor_16 : decode cL_nearestAncestor 16 = .ok (.ireturn, 1) := by decide +kernel
theorem dL_nearestAncestor_17 : decode cL_nearestAncestor 17 = .ok (.iconst 0, 1) := by decide +kernel
theorem dL_nearestAncestor_18 : decode cL_nearestAncestor 18 = .ok (.ireturn, 1) := by decide +kernel
set_option maxRecDepth 20000 in
theorem ggL_kinship_X2_kinship : GoodIn wsL_kinship wsX2_kinship := goodIn_ca (goodIn_r _ [6, 7, 8, 9, 10, 11, 5, 12, 13, 14, 15, 16, 17, 18, 19, 20, 21, 22, 23, 24, 25, 26, 27, 28, 29, 30, 31, 32, 33, 34, 35, 36] (by decide +kernel) (by decide +kernel)) (goodIn_sub (fun _ h => List.mem_cons_of_mem _ (List.mem_append_right _ h)) (by decide +kernel))
set_option maxRecDepth 20000 in
theorem gL_kinship_X2_kinship : GoodIn wsL_kinship (wsV RL 71 RX2 yX2_kinship wsX2_kinship) := goodIn_app (goodIn_of _ (by decide +kernel)) ggL_kinship_X2_kinship
theorem dL_kinship_0 : decode cL_kinship 0 = .ok (.aload_n 3, 1) := by decide +kernel
theorem dL_kinship_1 : decode cL_kinship 1 = .ok (.iconst 0, 1) := by decide +kernel
theorem dL_kinship_2 : decode cL_kinship 2 = .ok (.aload_n 0, 1) := by decide +kernel
theorem dL_kinship_3 : decode cL_kinship 3 = .ok (.iload_n 1, 1) := by decide +kernel
theorem dL_kinship_4 : decode cL_kinship 4 = .ok (.iload_n 2, 1) := by decide +kernel
theorem dL_kinship_5 : decode cL_kinship 5 = .ok (.invokevirtual 71, 3) := by decide +kernel
theorem dL_kinship_8 : decode cL_kinship 8 = .ok (.i2l, 1) := by decide +kernel
theorem dL_kinship_9 : decode cL_kinship 9 = .ok (.lastore, 1) := by decide +kernel
theorem dL_kinship_10 : decode cL_kinship 10 = .ok (.goto 7, 3) := by decide +kernel
theorem dL_kinship_13 : decode cL_kinship 13 = .ok (.astore 4, 2) := by decide +kernel
theorem dL_kinship_15 : decode cL_kinship 15 = .ok (.iconst 1, 1) := by decide +kernel
theorem dL_kinship_16 : decode cL_kinship 16 = .ok (.ireturn, 1) := by decide +kernel
theorem dL_kinship_17 : decode cL_kinship 17 = .ok (.iconst 0, 1) := by decide +kernel
theorem dL_kinship_18 : decode cL_kinship 18 = .ok (.ireturn, 1) := by decide +kernel
set_option maxRecDepth 20000 in
theorem ggL_sharedBeasts_X2_sharedBeasts : GoodIn wsL_sharedBeasts wsX2_sharedBeasts := goodIn_ca (goodIn_r _ [6, 7, 8, 9, 10, 11, 5, 12, 13, 14, 15, 16, 17, 18, 19, 20, 21, 22, 23, 24, 25, 26, 27, 28, 29, 30, 31, 32, 33, 34, 35, 36] (by decide +kernel) (by decide +kernel)) (goodIn_sub (fun _ h => List.mem_cons_of_mem _ (List.mem_append_right _ h)) (by decide +kernel))
set_option maxRecDepth 20000 in
theorem gL_sharedBeasts_X2_sharedBeasts : GoodIn wsL_sharedBeasts (wsV RL 74 RX2 yX2_sharedBeasts wsX2_sharedBeasts) := goodIn_app (goodIn_of _ (by decide +kernel)) ggL_sharedBeasts_X2_sharedBeasts
theorem dL_sharedBeasts_0 : decode cL_sharedBeasts 0 = .ok (.aload_n 3, 1) := by decide +kernel
theorem dL_sharedBeasts_1 : decode cL_sharedBeasts 1 = .ok (.iconst 0, 1) := by decide +kernel
theorem dL_sharedBeasts_2 : decode cL_sharedBeasts 2 = .ok (.aload_n 0, 1) := by decide +kernel
theorem dL_sharedBeasts_3 : decode cL_sharedBeasts 3 = .ok (.iload_n 1, 1) := by decide +kernel
theorem dL_sharedBeasts_4 : decode cL_sharedBeasts 4 = .ok (.iload_n 2, 1) := by decide +kernel
theorem dL_sharedBeasts_5 : decode cL_sharedBeasts 5 = .ok (.invokevirtual 74, 3) := by decide +kernel
theorem dL_sharedBeasts_8 : decode cL_sharedBeasts 8 = .ok (.i2l, 1) := by decide +kernel
theorem dL_sharedBeasts_9 : decode cL_sharedBeasts 9 = .ok (.lastore, 1) := by decide +kernel
theorem dL_sharedBeasts_10 : decode cL_sharedBeasts 10 = .ok (.goto 7, 3) := by decide +kernel
theorem dL_sharedBeasts_13 : decode cL_sharedBeasts 13 = .ok (.astore 4, 2) := by decide +kernel
theorem dL_sharedBeasts_15 : decode cL_sharedBeasts 15 = .ok (.iconst 1, 1) := by decide +kernel
theorem dL_sharedBeasts_16 : decode cL_sharedBeasts 16 = .ok (.ireturn, 1) := by decide +kernel
theorem dL_sharedBeasts_17 : decode cL_sharedBeasts 17 = .ok (.iconst 0, 1) := by decide +kernel
theorem dL_sharedBeasts_18 : decode cL_sharedBeasts 18 = .ok (.ireturn, 1) := by decide +kernel
set_option maxRecDepth 20000 in
theorem ggL_isOpen_X2_isOpen : GoodIn wsL_isOpen wsX2_isOpen := goodIn_ca (goodIn_r _ [6, 7, 8, 9, 10, 5, 11, 12, 13, 14, 15, 16, 17, 18, 19, 20, 21, 22, 23, 24, 25, 26, 27] (by decide +kernel) (by decide +kernel)) (goodIn_sub (fun _ h => List.mem_cons_of_mem _ (List.mem_append_right _ h)) (by decide +kernel))
set_option maxRecDepth 20000 in
theorem gL_isOpen_X2_isOpen : GoodIn wsL_isOpen (wsV RL 77 RX2 yX2_isOpen wsX2_isOpen) := goodIn_app (goodIn_of _ (by decide +kernel)) ggL_isOpen_X2_isOpen
theorem dL_isOpen_0 : decode cL_isOpen 0 = .ok (.aload_n 3, 1) := by decide +kernel
theorem dL_isOpen_1 : decode cL_isOpen 1 = .ok (.iconst 0, 1) := by decide +kernel
theorem dL_isOpen_2 : decode cL_isOpen 2 = .ok (.aload_n 0, 1) := by decide +kernel
theorem dL_isOpen_3 : decode cL_isOpen 3 = .ok (.iload_n 1, 1) := by decide +kernel
theorem dL_isOpen_4 : decode cL_isOpen 4 = .ok (.iload_n 2, 1) := by decide +kernel
theorem dL_isOpen_5 : decode cL_isOpen 5 = .ok (.invokevirtual 77, 3) := by decide +kernel
theorem dL_isOpen_8 : decode cL_isOpen 8 = .ok (.ifCond .eq 7, 3) := by decide +kernel
theorem dL_isOpen_11 : decode cL_isOpen 11 = .ok (.lconst 1, 1) := by decide +kernel
theorem dL_isOpen_12 : decode cL_isOpen 12 = .ok (.goto 4, 3) := by decide +kernel
theorem dL_isOpen_15 : decode cL_isOpen 15 = .ok (.lconst 0, 1) := by decide +kernel
theorem dL_isOpen_16 : decode cL_isOpen 16 = .ok (.lastore, 1) := by decide +kernel
theorem dL_isOpen_17 : decode cL_isOpen 17 = .ok (.goto 7, 3) := by decide +kernel
theorem dL_isOpen_20 : decode cL_isOpen 20 = .ok (.astore 4, 2) := by decide +kernel
theorem dL_isOpen_22 : decode cL_isOpen 22 = .ok (.iconst 1, 1) := by decide +kernel
theorem dL_isOpen_23 : decode cL_isOpen 23 = .ok (.ireturn, 1) := by decide +kernel
theorem dL_isOpen_24 : decode cL_isOpen 24 = .ok (.iconst 0, 1) := by decide +kernel
theorem dL_isOpen_25 : decode cL_isOpen 25 = .ok (.ireturn, 1) := by decide +kernel
set_option maxRecDepth 20000 in
theorem ggL_isBanned_X2_isBanned : GoodIn wsL_isBanned wsX2_isBanned := goodIn_ca (goodIn_r _ [6, 7, 8, 9, 10, 11, 5, 12, 13, 14, 15, 16, 17, 18, 19, 20, 21, 22, 23, 24, 25, 26, 27, 28, 29, 30, 31, 32, 33, 34, 35, 36, 37, 38, 39, 40, 41, 42, 43, 44, 45, 46, 47] (by decide +kernel) (by decide +kernel)) (goodIn_sub (fun _ h => List.mem_cons_of_mem _ (List.mem_append_right _ h)) (by decide +kernel))
set_option maxRecDepth 20000 in
theorem gL_isBanned_X2_isBanned : GoodIn wsL_isBanned (wsV RL 80 RX2 yX2_isBanned wsX2_isBanned) := goodIn_app (goodIn_of _ (by decide +kernel)) ggL_isBanned_X2_isBanned
theorem dL_isBanned_0 : decode cL_isBanned 0 = .ok (.aload_n 3, 1) := by decide +kernel
theorem dL_isBanned_1 : decode cL_isBanned 1 = .ok (.iconst 0, 1) := by decide +kernel
theorem dL_isBanned_2 : decode cL_isBanned 2 = .ok (.aload_n 0, 1) := by decide +kernel
theorem dL_isBanned_3 : decode cL_isBanned 3 = .ok (.iload_n 1, 1) := by decide +kernel
theorem dL_isBanned_4 : decode cL_isBanned 4 = .ok (.iload_n 2, 1) := by decide +kernel
theorem dL_isBanned_5 : decode cL_isBanned 5 = .ok (.invokevirtual 80, 3) := by decide +kernel
theorem dL_isBanned_8 : decode cL_isBanned 8 = .ok (.ifCond .eq 7, 3) := by decide +kernel
theorem dL_isBanned_11 : decode cL_isBanned 11 = .ok (.lconst 1, 1) := by decide +kernel
theorem dL_isBanned_12 : decode cL_isBanned 12 = .ok (.goto 4, 3) := by decide +kernel
theorem dL_isBanned_15 : decode cL_isBanned 15 = .ok (.lconst 0, 1) := by decide +kernel
theorem dL_isBanned_16 : decode cL_isBanned 16 = .ok (.lastore, 1) := by decide +kernel
theorem dL_isBanned_17 : decode cL_isBanned 17 = .ok (.goto 7, 3) := by decide +kernel
theorem dL_isBanned_20 : decode cL_isBanned 20 = .ok (.astore 4, 2) := by decide +kernel
theorem dL_isBanned_22 : decode cL_isBanned 22 = .ok (.iconst 1, 1) := by decide +kernel
theorem dL_isBanned_23 : decode cL_isBanned 23 = .ok (.ireturn, 1) := by decide +kernel
theorem dL_isBanned_24 : decode cL_isBanned 24 = .ok (.iconst 0, 1) := by decide +kernel
theorem dL_isBanned_25 : decode cL_isBanned 25 = .ok (.ireturn, 1) := by decide +kernel
set_option maxRecDepth 20000 in
theorem ggL_isTold_X2_isTold : GoodIn wsL_isTold wsX2_isTold := goodIn_ca (goodIn_r _ [6, 7, 8, 9, 10, 11, 5, 12, 13, 14, 15, 16, 17, 18, 19, 20, 21, 22, 23, 24, 25, 26, 27, 28, 29, 30, 31, 32, 33, 34, 35, 36, 37, 38, 39, 40] (by decide +kernel) (by decide +kernel)) (goodIn_sub (fun _ h => List.mem_cons_of_mem _ (List.mem_append_right _ h)) (by decide +kernel))
set_option maxRecDepth 20000 in
theorem gL_isTold_X2_isTold : GoodIn wsL_isTold (wsV RL 83 RX2 yX2_isTold wsX2_isTold) := goodIn_app (goodIn_of _ (by decide +kernel)) ggL_isTold_X2_isTold
theorem dL_isTold_0 : decode cL_isTold 0 = .ok (.aload_n 3, 1) := by decide +kernel
theorem dL_isTold_1 : decode cL_isTold 1 = .ok (.iconst 0, 1) := by decide +kernel
theorem dL_isTold_2 : decode cL_isTold 2 = .ok (.aload_n 0, 1) := by decide +kernel
theorem dL_isTold_3 : decode cL_isTold 3 = .ok (.iload_n 1, 1) := by decide +kernel
theorem dL_isTold_4 : decode cL_isTold 4 = .ok (.iload_n 2, 1) := by decide +kernel
theorem dL_isTold_5 : decode cL_isTold 5 = .ok (.invokevirtual 83, 3) := by decide +kernel
theorem dL_isTold_8 : decode cL_isTold 8 = .ok (.ifCond .eq 7, 3) := by decide +kernel
theorem dL_isTold_11 : decode cL_isTold 11 = .ok (.lconst 1, 1) := by decide +kernel
theorem dL_isTold_12 : decode cL_isTold 12 = .ok (.goto 4, 3) := by decide +kernel
theorem dL_isTold_15 : decode cL_isTold 15 = .ok (.lconst 0, 1) := by decide +kernel
theorem dL_isTold_16 : decode cL_isTold 16 = .ok (.lastore, 1) := by decide +kernel
theorem dL_isTold_17 : decode cL_isTold 17 = .ok (.goto 7, 3) := by decide +kernel
theorem dL_isTold_20 : decode cL_isTold 20 = .ok (.astore 4, 2) := by decide +kernel
theorem dL_isTold_22 : decode cL_isTold 22 = .ok (.iconst 1, 1) := by decide +kernel
theorem dL_isTold_23 : decode cL_isTold 23 = .ok (.ireturn, 1) := by decide +kernel
theorem dL_isTold_24 : decode cL_isTold 24 = .ok (.iconst 0, 1) := by decide +kernel
theorem dL_isTold_25 : decode cL_isTold 25 = .ok (.ireturn, 1) := by decide +kernel
set_option maxRecDepth 20000 in
theorem ggL_toldIn_X2_toldIn : GoodIn wsL_toldIn wsX2_toldIn := goodIn_ca (goodIn_r _ [6, 7, 8, 9, 10, 5, 11, 12, 13, 14, 15, 16, 17, 18, 19, 20, 21, 22, 23, 24, 25, 26, 27, 28, 29, 30, 31, 32, 33, 34] (by decide +kernel) (by decide +kernel)) (goodIn_sub (fun _ h => List.mem_cons_of_mem _ (List.mem_append_right _ h)) (by decide +kernel))
set_option maxRecDepth 20000 in
theorem gL_toldIn_X2_toldIn : GoodIn wsL_toldIn (wsV RL 86 RX2 yX2_toldIn wsX2_toldIn) := goodIn_app (goodIn_of _ (by decide +kernel)) ggL_toldIn_X2_toldIn
theorem dL_toldIn_0 : decode cL_toldIn 0 = .ok (.aload_n 2, 1) := by decide +kernel
theorem dL_toldIn_1 : decode cL_toldIn 1 = .ok (.iconst 0, 1) := by decide +kernel
theorem dL_toldIn_2 : decode cL_toldIn 2 = .ok (.aload_n 0, 1) := by decide +kernel
theorem dL_toldIn_3 : decode cL_toldIn 3 = .ok (.iload_n 1, 1) := by decide +kernel
theorem dL_toldIn_4 : decode cL_toldIn 4 = .ok (.invokevirtual 86, 3) := by decide +kernel
theorem dL_toldIn_7 : decode cL_toldIn 7 = .ok (.i2l, 1) := by decide +kernel
theorem dL_toldIn_8 : decode cL_toldIn 8 = .ok (.lastore, 1) := by decide +kernel
theorem dL_toldIn_9 : decode cL_toldIn 9 = .ok (.goto 6, 3) := by decide +kernel
theorem dL_toldIn_12 : decode cL_toldIn 12 = .ok (.astore_n 3, 1) := by decide +kernel
theorem dL_toldIn_13 : decode cL_toldIn 13 = .ok (.iconst 1, 1) := by decide +kernel
theorem dL_toldIn_14 : decode cL_toldIn 14 = .ok (.ireturn, 1) := by decide +kernel
theorem dL_toldIn_15 : decode cL_toldIn 15 = .ok (.iconst 0, 1) := by decide +kernel
theorem dL_toldIn_16 : decode cL_toldIn 16 = .ok (.ireturn, 1) := by decide +kernel
set_option maxRecDepth 20000 in
theorem ggL_allowedIn_X2_allowedIn : GoodIn wsL_allowedIn wsX2_allowedIn := goodIn_ca (goodIn_r _ [6, 7, 8, 9, 10, 5, 11, 12, 13, 14, 15, 16, 17, 18, 19, 20, 21, 22, 23, 24, 25, 26, 27, 28, 29, 30, 31, 32, 33, 34, 35, 36, 37, 38, 39, 40, 41, 42, 43, 44, 45, 46, 47, 48, 49, 50, 51, 52, 53, 54, 55, 56, 57] (by decide +kernel) (by decide +kernel)) (goodIn_sub (fun _ h => List.mem_cons_of_mem _ (List.mem_append_right _ h)) (by decide +kernel))
set_option maxRecDepth 20000 in
theorem gL_allowedIn_X2_allowedIn : GoodIn wsL_allowedIn (wsV RL 89 RX2 yX2_allowedIn wsX2_allowedIn) := goodIn_app (goodIn_of _ (by decide +kernel)) ggL_allowedIn_X2_allowedIn
theorem dL_allowedIn_0 : decode cL_allowedIn 0 = .ok (.aload_n 2, 1) := by decide +kernel
theorem dL_allowedIn_1 : decode cL_allowedIn 1 = .ok (.iconst 0, 1) := by decide +kernel
theorem dL_allowedIn_2 : decode cL_allowedIn 2 = .ok (.aload_n 0, 1) := by decide +kernel
theorem dL_allowedIn_3 : decode cL_allowedIn 3 = .ok (.iload_n 1, 1) := by decide +kernel
theorem dL_allowedIn_4 : decode cL_allowedIn 4 = .ok (.invokevirtual 89, 3) := by decide +kernel
theorem dL_allowedIn_7 : decode cL_allowedIn 7 = .ok (.i2l, 1) := by decide +kernel
theorem dL_allowedIn_8 : decode cL_allowedIn 8 = .ok (.lastore, 1) := by decide +kernel
theorem dL_allowedIn_9 : decode cL_allowedIn 9 = .ok (.goto 6, 3) := by decide +kernel
theorem dL_allowedIn_12 : decode cL_allowedIn 12 = .ok (.astore_n 3, 1) := by decide +kernel
theorem dL_allowedIn_13 : decode cL_allowedIn 13 = .ok (.iconst 1, 1) := by decide +kernel
theorem dL_allowedIn_14 : decode cL_allowedIn 14 = .ok (.ireturn, 1) := by decide +kernel
theorem dL_allowedIn_15 : decode cL_allowedIn 15 = .ok (.iconst 0, 1) := by decide +kernel
theorem dL_allowedIn_16 : decode cL_allowedIn 16 = .ok (.ireturn, 1) := by decide +kernel
set_option maxRecDepth 20000 in
theorem ggL_bansOf_X2_bansOf : GoodIn wsL_bansOf wsX2_bansOf := goodIn_ca (goodIn_r _ [6, 7, 8, 9, 10, 11, 5, 12, 13, 14, 15, 16, 17, 18, 19, 20, 21, 22, 23, 24, 25, 26, 27, 28, 29, 30, 31, 32, 33, 34, 35] (by decide +kernel) (by decide +kernel)) (goodIn_sub (fun _ h => List.mem_cons_of_mem _ (List.mem_append_right _ h)) (by decide +kernel))
set_option maxRecDepth 20000 in
theorem gL_bansOf_X2_bansOf : GoodIn wsL_bansOf (wsV RL 92 RX2 yX2_bansOf wsX2_bansOf) := goodIn_app (goodIn_of _ (by decide +kernel)) ggL_bansOf_X2_bansOf
theorem dL_bansOf_0 : decode cL_bansOf 0 = .ok (.aload_n 2, 1) := by decide +kernel
theorem dL_bansOf_1 : decode cL_bansOf 1 = .ok (.iconst 0, 1) := by decide +kernel
theorem dL_bansOf_2 : decode cL_bansOf 2 = .ok (.aload_n 0, 1) := by decide +kernel
theorem dL_bansOf_3 : decode cL_bansOf 3 = .ok (.iload_n 1, 1) := by decide +kernel
theorem dL_bansOf_4 : decode cL_bansOf 4 = .ok (.invokevirtual 92, 3) := by decide +kernel
theorem dL_bansOf_7 : decode cL_bansOf 7 = .ok (.i2l, 1) := by decide +kernel
theorem dL_bansOf_8 : decode cL_bansOf 8 = .ok (.lastore, 1) := by decide +kernel
theorem dL_bansOf_9 : decode cL_bansOf 9 = .ok (.goto 6, 3) := by decide +kernel
theorem dL_bansOf_12 : decode cL_bansOf 12 = .ok (.astore_n 3, 1) := by decide +kernel
theorem dL_bansOf_13 : decode cL_bansOf 13 = .ok (.iconst 1, 1) := by decide +kernel
theorem dL_bansOf_14 : decode cL_bansOf 14 = .ok (.ireturn, 1) := by decide +kernel
theorem dL_bansOf_15 : decode cL_bansOf 15 = .ok (.iconst 0, 1) := by decide +kernel
theorem dL_bansOf_16 : decode cL_bansOf 16 = .ok (.ireturn, 1) := by decide +kernel
set_option maxRecDepth 20000 in
theorem ggL_fablesWithMoral_X2_fablesWithMoral : GoodIn wsL_fablesWithMoral wsX2_fablesWithMoral := goodIn_ca (goodIn_r _ [6, 7, 8, 9, 5, 10, 11, 12, 13, 14, 15, 16, 17, 18, 19, 20, 21, 22, 23, 24, 25, 26, 27, 28, 29, 30, 31, 32, 33, 34, 35, 36, 37, 38, 39, 40] (by decide +kernel) (by decide +kernel)) (goodIn_sub (fun _ h => List.mem_cons_of_mem _ (List.mem_append_right _ h)) (by decide +kernel))
set_option maxRecDepth 20000 in
theorem gL_fablesWithMoral_X2_fablesWithMoral : GoodIn wsL_fablesWithMoral (wsV RL 95 RX2 yX2_fablesWithMoral wsX2_fablesWithMoral) := goodIn_app (goodIn_of _ (by decide +kernel)) ggL_fablesWithMoral_X2_fablesWithMoral
theorem dL_fablesWithMoral_0 : decode cL_fablesWithMoral 0 = .ok (.aload_n 2, 1) := by decide +kernel
theorem dL_fablesWithMoral_1 : decode cL_fablesWithMoral 1 = .ok (.iconst 0, 1) := by decide +kernel
theorem dL_fablesWithMoral_2 : decode cL_fablesWithMoral 2 = .ok (.aload_n 0, 1) := by decide +kernel
theorem dL_fablesWithMoral_3 : decode cL_fablesWithMoral 3 = .ok (.iload_n 1, 1) := by decide +kernel
theorem dL_fablesWithMoral_4 : decode cL_fablesWithMoral 4 = .ok (.invokevirtual 95, 3) := by decide +kernel
theorem dL_fablesWithMoral_7 : decode cL_fablesWithMoral 7 = .ok (.i2l, 1) := by decide +kernel
theorem dL_fablesWithMoral_8 : decode cL_fablesWithMoral 8 = .ok (.lastore, 1) := by decide +kernel
theorem dL_fablesWithMoral_9 : decode cL_fablesWithMoral 9 = .ok (.goto 6, 3) := by decide +kernel
theorem dL_fablesWithMoral_12 : decode cL_fablesWithMoral 12 = .ok (.astore_n 3, 1) := by decide +kernel
theorem dL_fablesWithMoral_13 : decode cL_fablesWithMoral 13 = .ok (.iconst 1, 1) := by decide +kernel
theorem dL_fablesWithMoral_14 : decode cL_fablesWithMoral 14 = .ok (.ireturn, 1) := by decide +kernel
theorem dL_fablesWithMoral_15 : decode cL_fablesWithMoral 15 = .ok (.iconst 0, 1) := by decide +kernel
theorem dL_fablesWithMoral_16 : decode cL_fablesWithMoral 16 = .ok (.ireturn, 1) := by decide +kernel
set_option maxRecDepth 20000 in
theorem ggL_fablesWithBeast_X2_fablesWithBeast : GoodIn wsL_fablesWithBeast wsX2_fablesWithBeast := goodIn_ca (goodIn_r _ [6, 7, 8, 9, 5, 10, 11, 12, 13, 14, 15, 16, 17, 18, 19, 20, 21, 22, 23, 24, 25, 26, 27, 28, 29, 30, 31, 32, 33, 34, 35, 36, 37, 38, 39, 40, 41, 42] (by decide +kernel) (by decide +kernel)) (goodIn_sub (fun _ h => List.mem_cons_of_mem _ (List.mem_append_right _ h)) (by decide +kernel))
set_option maxRecDepth 20000 in
theorem gL_fablesWithBeast_X2_fablesWithBeast : GoodIn wsL_fablesWithBeast (wsV RL 98 RX2 yX2_fablesWithBeast wsX2_fablesWithBeast) := goodIn_app (goodIn_of _ (by decide +kernel)) ggL_fablesWithBeast_X2_fablesWithBeast
theorem dL_fablesWithBeast_0 : decode cL_fablesWithBeast 0 = .ok (.aload_n 2, 1) := by decide +kernel
theorem dL_fablesWithBeast_1 : decode cL_fablesWithBeast 1 = .ok (.iconst 0, 1) := by decide +kernel
theorem dL_fablesWithBeast_2 : decode cL_fablesWithBeast 2 = .ok (.aload_n 0, 1) := by decide +kernel
theorem dL_fablesWithBeast_3 : decode cL_fablesWithBeast 3 = .ok (.iload_n 1, 1) := by decide +kernel
theorem dL_fablesWithBeast_4 : decode cL_fablesWithBeast 4 = .ok (.invokevirtual 98, 3) := by decide +kernel
theorem dL_fablesWithBeast_7 : decode cL_fablesWithBeast 7 = .ok (.i2l, 1) := by decide +kernel
theorem dL_fablesWithBeast_8 : decode cL_fablesWithBeast 8 = .ok (.lastore, 1) := by decide +kernel
theorem dL_fablesWithBeast_9 : decode cL_fablesWithBeast 9 = .ok (.goto 6, 3) := by decide +kernel
theorem dL_fablesWithBeast_12 : decode cL_fablesWithBeast 12 = .ok (.astore_n 3, 1) := by decide +kernel
theorem dL_fablesWithBeast_13 : decode cL_fablesWithBeast 13 = .ok (.iconst 1, 1) := by decide +kernel
theorem dL_fablesWithBeast_14 : decode cL_fablesWithBeast 14 = .ok (.ireturn, 1) := by decide +kernel
theorem dL_fablesWithBeast_15 : decode cL_fablesWithBeast 15 = .ok (.iconst 0, 1) := by decide +kernel
theorem dL_fablesWithBeast_16 : decode cL_fablesWithBeast 16 = .ok (.ireturn, 1) := by decide +kernel
set_option maxRecDepth 20000 in
theorem ggL_seasonsUntil_X2_seasonsUntil : GoodIn wsL_seasonsUntil wsX2_seasonsUntil := goodIn_ca (goodIn_r _ [6, 7, 8, 9, 10, 11, 12, 13, 5, 14, 15, 16, 17, 18, 19, 20, 21, 22, 23, 24, 25, 26, 27, 28, 29, 30, 31, 32, 33, 34, 35, 36, 37, 38, 39, 40, 41, 42, 43, 44, 45, 46, 47, 48, 49, 50, 51, 52, 53, 54, 55, 56, 57, 58, 59, 60, 61, 62, 63, 64, 65, 66, 67, 68, 69, 70, 71, 72, 73, 74, 75, 76, 77, 78, 79, 80, 81, 82, 83, 84, 85, 86, 87, 88, 89, 90, 91, 92, 93, 94, 95, 96] (by decide +kernel) (by decide +kernel)) (goodIn_sub (fun _ h => List.mem_cons_of_mem _ (List.mem_append_right _ h)) (by decide +kernel))
set_option maxRecDepth 20000 in
theorem gL_seasonsUntil_X2_seasonsUntil : GoodIn wsL_seasonsUntil (wsV RL 101 RX2 yX2_seasonsUntil wsX2_seasonsUntil) := goodIn_app (goodIn_of _ (by decide +kernel)) ggL_seasonsUntil_X2_seasonsUntil
theorem dL_seasonsUntil_0 : decode cL_seasonsUntil 0 = .ok (.aload_n 3, 1) := by decide +kernel
theorem dL_seasonsUntil_1 : decode cL_seasonsUntil 1 = .ok (.iconst 0, 1) := by decide +kernel
theorem dL_seasonsUntil_2 : decode cL_seasonsUntil 2 = .ok (.aload_n 0, 1) := by decide +kernel
theorem dL_seasonsUntil_3 : decode cL_seasonsUntil 3 = .ok (.iload_n 1, 1) := by decide +kernel
theorem dL_seasonsUntil_4 : decode cL_seasonsUntil 4 = .ok (.iload_n 2, 1) := by decide +kernel
theorem dL_seasonsUntil_5 : decode cL_seasonsUntil 5 = .ok (.invokevirtual 101, 3) := by decide +kernel
theorem dL_seasonsUntil_8 : decode cL_seasonsUntil 8 = .ok (.i2l, 1) := by decide +kernel
theorem dL_seasonsUntil_9 : decode cL_seasonsUntil 9 = .ok (.lastore, 1) := by decide +kernel
theorem dL_seasonsUntil_10 : decode cL_seasonsUntil 10 = .ok (.goto 7, 3) := by decide +kernel
theorem dL_seasonsUntil_13 : decode cL_seasonsUntil 13 = .ok (.astore 4, 2) := by decide +kernel
theorem dL_seasonsUntil_15 : decode cL_seasonsUntil 15 = .ok (.iconst 1, 1) := by decide +kernel
theorem dL_seasonsUntil_16 : decode cL_seasonsUntil 16 = .ok (.ireturn, 1) := by decide +kernel
theorem dL_seasonsUntil_17 : decode cL_seasonsUntil 17 = .ok (.iconst 0, 1) := by decide +kernel
theorem dL_seasonsUntil_18 : decode cL_seasonsUntil 18 = .ok (.ireturn, 1) := by decide +kernel
set_option maxRecDepth 20000 in
theorem ggL_tellingsAfter_X2_tellingsAfter : GoodIn wsL_tellingsAfter wsX2_tellingsAfter := goodIn_ca (goodIn_r _ [6, 7, 8, 9, 10, 5, 11, 12, 13, 14, 15, 16, 17, 18, 19, 20, 21, 22, 23, 24, 25, 26, 27, 28, 29, 30, 31, 32, 33, 34, 35, 36, 37, 38, 39, 40, 41, 42, 43, 44, 45, 46, 47, 48, 49, 50, 51, 52, 53, 54, 55, 56, 57, 58, 59, 60, 61, 62, 63, 64, 65, 66, 67, 68, 69, 70, 71, 72, 73, 74, 75, 76, 77, 78, 79, 80, 81, 82, 83, 84, 85, 86, 87, 88, 89, 90, 91, 92, 93, 94, 95, 96, 97, 98, 99, 100, 101, 102, 103] (by decide +kernel) (by decide +kernel)) (goodIn_sub (fun _ h => List.mem_cons_of_mem _ (List.mem_append_right _ h)) (by decide +kernel))
set_option maxRecDepth 20000 in
theorem gL_tellingsAfter_X2_tellingsAfter : GoodIn wsL_tellingsAfter (wsV RL 104 RX2 yX2_tellingsAfter wsX2_tellingsAfter) := goodIn_app (goodIn_of _ (by decide +kernel)) ggL_tellingsAfter_X2_tellingsAfter
theorem dL_tellingsAfter_0 : decode cL_tellingsAfter 0 = .ok (.aload_n 2, 1) := by decide +kernel
theorem dL_tellingsAfter_1 : decode cL_tellingsAfter 1 = .ok (.iconst 0, 1) := by decide +kernel
theorem dL_tellingsAfter_2 : decode cL_tellingsAfter 2 = .ok (.aload_n 0, 1) := by decide +kernel
theorem dL_tellingsAfter_3 : decode cL_tellingsAfter 3 = .ok (.iload_n 1, 1) := by decide +kernel
theorem dL_tellingsAfter_4 : decode cL_tellingsAfter 4 = .ok (.invokevirtual 104, 3) := by decide +kernel
theorem dL_tellingsAfter_7 : decode cL_tellingsAfter 7 = .ok (.i2l, 1) := by decide +kernel
theorem dL_tellingsAfter_8 : decode cL_tellingsAfter 8 = .ok (.lastore, 1) := by decide +kernel
theorem dL_tellingsAfter_9 : decode cL_tellingsAfter 9 = .ok (.goto 6, 3) := by decide +kernel
theorem dL_tellingsAfter_12 : decode cL_tellingsAfter 12 = .ok (.astore_n 3, 1) := by decide +kernel
theorem dL_tellingsAfter_13 : decode cL_tellingsAfter 13 = .ok (.iconst 1, 1) := by decide +kernel
theorem dL_tellingsAfter_14 : decode cL_tellingsAfter 14 = .ok (.ireturn, 1) := by decide +kernel
theorem dL_tellingsAfter_15 : decode cL_tellingsAfter 15 = .ok (.iconst 0, 1) := by decide +kernel
theorem dL_tellingsAfter_16 : decode cL_tellingsAfter 16 = .ok (.ireturn, 1) := by decide +kernel
set_option maxRecDepth 20000 in
theorem ggL_bestPass_X2_bestPass : GoodIn wsL_bestPass wsX2_bestPass := goodIn_ca (goodIn_r _ [6, 7, 8, 9, 10, 11, 5, 12, 13, 14, 15, 16, 17, 18, 19, 20, 21, 22, 23, 24, 25, 26, 27, 28, 29, 30, 31, 32, 33, 34, 35, 36, 37, 38, 39, 40, 41, 42, 43, 44, 45, 46, 47, 48, 49, 50, 51, 52, 53, 54, 55, 56, 57, 58, 59, 60, 61, 62, 63, 64, 65, 66, 67, 68, 69, 70, 71, 72, 73, 74, 75, 76, 77, 78, 79, 80, 81, 82, 83, 84, 85, 86, 87, 88, 89, 90, 91, 92, 93, 94, 95, 96, 97, 98, 99, 100, 101, 102, 103, 104, 105, 106, 107, 108, 109, 110, 111, 112, 113, 114, 115] (by decide +kernel) (by decide +kernel)) (goodIn_sub (fun _ h => List.mem_cons_of_mem _ (List.mem_append_right _ h)) (by decide +kernel))
set_option maxRecDepth 20000 in
theorem gL_bestPass_X2_bestPass : GoodIn wsL_bestPass (wsV RL 107 RX2 yX2_bestPass wsX2_bestPass) := goodIn_app (goodIn_of _ (by decide +kernel)) ggL_bestPass_X2_bestPass
theorem dL_bestPass_0 : decode cL_bestPass 0 = .ok (.aload_n 2, 1) := by decide +kernel
theorem dL_bestPass_1 : decode cL_bestPass 1 = .ok (.iconst 0, 1) := by decide +kernel
theorem dL_bestPass_2 : decode cL_bestPass 2 = .ok (.aload_n 0, 1) := by decide +kernel
theorem dL_bestPass_3 : decode cL_bestPass 3 = .ok (.iload_n 1, 1) := by decide +kernel
theorem dL_bestPass_4 : decode cL_bestPass 4 = .ok (.invokevirtual 107, 3) := by decide +kernel
theorem dL_bestPass_7 : decode cL_bestPass 7 = .ok (.i2l, 1) := by decide +kernel
theorem dL_bestPass_8 : decode cL_bestPass 8 = .ok (.lastore, 1) := by decide +kernel
theorem dL_bestPass_9 : decode cL_bestPass 9 = .ok (.goto 6, 3) := by decide +kernel
theorem dL_bestPass_12 : decode cL_bestPass 12 = .ok (.astore_n 3, 1) := by decide +kernel
theorem dL_bestPass_13 : decode cL_bestPass 13 = .ok (.iconst 1, 1) := by decide +kernel
theorem dL_bestPass_14 : decode cL_bestPass 14 = .ok (.ireturn, 1) := by decide +kernel
theorem dL_bestPass_15 : decode cL_bestPass 15 = .ok (.iconst 0, 1) := by decide +kernel
theorem dL_bestPass_16 : decode cL_bestPass 16 = .ok (.ireturn, 1) := by decide +kernel
