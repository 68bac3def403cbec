set_option maxRecDepth 20000 in
theorem ggX2_init_X0_init : GoodIn wsX2_init wsX0_init := goodIn_r _ [16, 17, 2, 3, 18, 19, 20, 21, 22, 23, 24, 25, 37, 38, 39, 40, 41, 42, 43] (by decide +kernel) (by decide +kernel)
set_option maxRecDepth 20000 in
theorem gX2_init_X0_init : GoodIn wsX2_init (wsX0_init) := ggX2_init_X0_init
set_option maxRecDepth 20000 in
theorem ggX2_init_X1_init : GoodIn wsX2_init wsX1_init := goodIn_r _ [28, 29, 2, 3, 19, 30, 31, 32, 33, 34, 35, 36, 48, 49, 50, 51, 52, 53, 54] (by decide +kernel) (by decide +kernel)
set_option maxRecDepth 20000 in
theorem gX2_init_X1_init : GoodIn wsX2_init (wsX1_init) := ggX2_init_X1_init
theorem dX2_init_0 : decode cX2_init 0 = .ok (.aload_n 0, 1) := by decide +kernel
theorem dX2_init_1 : decode cX2_init 1 = .ok (.invokespecial 1, 3) := by decide +kernel
theorem dX2_init_4 : decode cX2_init 4 = .ok (.aload_n 0, 1) := by decide +kernel
theorem dX2_init_5 : decode cX2_init 5 = .ok (.new 7, 3) := by decide +kernel
theorem dX2_init_8 : decode cX2_init 8 = .ok (.dup, 1) := by decide +kernel
theorem dX2_init_9 : decode cX2_init 9 = .ok (.invokespecial 9, 3) := by decide +kernel
theorem dX2_init_12 : decode cX2_init 12 = .ok (.putfield 10, 3) := by decide +kernel
theorem dX2_init_15 : decode cX2_init 15 = .ok (.aload_n 0, 1) := by decide +kernel
theorem dX2_init_16 : decode cX2_init 16 = .ok (.new 16, 3) := by decide +kernel
theorem dX2_init_19 : decode cX2_init 19 = .ok (.dup, 1) := by decide +kernel
theorem dX2_init_20 : decode cX2_init 20 = .ok (.invokespecial 18, 3) := by decide +kernel
theorem dX2_init_23 : decode cX2_init 23 = .ok (.putfield 19, 3) := by decide +kernel
theorem dX2_init_26 : decode cX2_init 26 = .ok (.aload_n 0, 1) := by decide +kernel
theorem dX2_init_27 : decode cX2_init 27 = .ok (.new 16, 3) := by decide +kernel
theorem dX2_init_30 : decode cX2_init 30 = .ok (.dup, 1) := by decide +kernel
theorem dX2_init_31 : decode cX2_init 31 = .ok (.invokespecial 18, 3) := by decide +kernel
theorem dX2_init_34 : decode cX2_init 34 = .ok (.putfield 23, 3) := by decide +kernel
theorem dX2_init_37 : decode cX2_init 37 = .ok (.aload_n 0, 1) := by decide +kernel
theorem dX2_init_38 : decode cX2_init 38 = .ok (.iconst 0, 1) := by decide +kernel
theorem dX2_init_39 : decode cX2_init 39 = .ok (.putfield 26, 3) := by decide +kernel
theorem dX2_init_42 : decode cX2_init 42 = .ok (.return_, 1) := by decide +kernel
set_option maxRecDepth 20000 in
theorem ggX2_addFable_X2_needMoral : GoodIn wsX2_addFable wsX2_needMoral := goodIn_ca (goodIn_r _ [5, 6, 7] (by decide +kernel) (by decide +kernel)) (goodIn_sub (fun _ h => List.mem_cons_of_mem _ (List.mem_append_left _ (List.mem_append_right _ h))) (by decide +kernel))
set_option maxRecDepth 20000 in
theorem gX2_addFable_X2_needMoral : GoodIn wsX2_addFable (va_wsS RX2 30 yX2_needMoral wsX2_needMoral) := goodIn_app (goodIn_of _ (by decide +kernel)) ggX2_addFable_X2_needMoral
set_option maxRecDepth 20000 in
theorem ggX2_addFable_X2_needBeast : GoodIn wsX2_addFable wsX2_needBeast := goodIn_ca (goodIn_r _ [10, 6, 7] (by decide +kernel) (by decide +kernel)) (goodIn_sub (fun _ h => List.mem_cons_of_mem _ (List.mem_append_left _ (List.mem_append_right _ h))) (by decide +kernel))
set_option maxRecDepth 20000 in
theorem gX2_addFable_X2_needBeast : GoodIn wsX2_addFable (va_wsS RX2 34 yX2_needBeast wsX2_needBeast) := goodIn_app (goodIn_of _ (by decide +kernel)) ggX2_addFable_X2_needBeast
set_option maxRecDepth 20000 in
theorem ggX2_addFable_X2_needValley : GoodIn wsX2_addFable wsX2_needValley := goodIn_ca (goodIn_r _ [13, 6, 7] (by decide +kernel) (by decide +kernel)) (goodIn_sub (fun _ h => List.mem_cons_of_mem _ (List.mem_append_left _ (List.mem_append_right _ h))) (by decide +kernel))
set_option maxRecDepth 20000 in
theorem gX2_addFable_X2_needValley : GoodIn wsX2_addFable (va_wsS RX2 37 yX2_needValley wsX2_needValley) := goodIn_app (goodIn_of _ (by decide +kernel)) ggX2_addFable_X2_needValley
set_option maxRecDepth 20000 in
theorem ggX2_addFable_X2_needFreePage : GoodIn wsX2_addFable wsX2_needFreePage := goodIn_ca (goodIn_r _ [17, 18, 19, 1, 20, 33, 34, 35, 36, 37, 38, 39, 40, 41, 42, 43] (by decide +kernel) (by decide +kernel)) (goodIn_sub (fun _ h => List.mem_cons_of_mem _ (List.mem_append_right _ h)) (by decide +kernel))
set_option maxRecDepth 20000 in
theorem gX2_addFable_X2_needFreePage : GoodIn wsX2_addFable (wsV RX2 40 RX2 yX2_needFreePage wsX2_needFreePage) := goodIn_app (goodIn_of _ (by decide +kernel)) ggX2_addFable_X2_needFreePage
set_option maxRecDepth 20000 in
theorem ggX2_addFable_X0_write : GoodIn wsX2_addFable wsX0_write := goodIn_r _ [25, 26, 27, 28, 29, 30, 31, 32, 37, 38, 39, 40, 41, 42, 43] (by decide +kernel) (by decide +kernel)
set_option maxRecDepth 20000 in
theorem gX2_addFable_X0_write : GoodIn wsX2_addFable (wsV RX2 43 RX0 yX0_write wsX0_write) := goodIn_app (goodIn_of _ (by decide +kernel)) ggX2_addFable_X0_write
theorem dX2_addFable_0 : decode cX2_addFable 0 = .ok (.iload_n 1, 1) := by decide +kernel
theorem dX2_addFable_1 : decode cX2_addFable 1 = .ok (.invokestatic 30, 3) := by decide +kernel
theorem dX2_addFable_4 : decode cX2_addFable 4 = .ok (.iload_n 2, 1) := by decide +kernel
theorem dX2_addFable_5 : decode cX2_addFable 5 = .ok (.invokestatic 34, 3) := by decide +kernel
theorem dX2_addFable_8 : decode cX2_addFable 8 = .ok (.iload_n 3, 1) := by decide +kernel
theorem dX2_addFable_9 : decode cX2_addFable 9 = .ok (.invokestatic 37, 3) := by decide +kernel
theorem dX2_addFable_12 : decode cX2_addFable 12 = .ok (.aload_n 0, 1) := by decide +kernel
theorem dX2_addFable_13 : decode cX2_addFable 13 = .ok (.invokevirtual 40, 3) := by decide +kernel
theorem dX2_addFable_16 : decode cX2_addFable 16 = .ok (.aload_n 0, 1) := by decide +kernel
theorem dX2_addFable_17 : decode cX2_addFable 17 = .ok (.getfield 10, 3) := by decide +kernel
theorem dX2_addFable_20 : decode cX2_addFable 20 = .ok (.iload_n 1, 1) := by decide +kernel
theorem dX2_addFable_21 : decode cX2_addFable 21 = .ok (.iconst 1, 1) := by decide +kernel
theorem dX2_addFable_22 : decode cX2_addFable 22 = .ok (.iload_n 2, 1) := by decide +kernel
theorem dX2_addFable_23 : decode cX2_addFable 23 = .ok (.ishl, 1) := by decide +kernel
theorem dX2_addFable_24 : decode cX2_addFable 24 = .ok (.iload_n 3, 1) := by decide +kernel
theorem dX2_addFable_25 : decode cX2_addFable 25 = .ok (.iconst (-1), 1) := by decide +kernel
theorem dX2_addFable_26 : decode cX2_addFable 26 = .ok (.invokevirtual 43, 3) := by decide +kernel
theorem dX2_addFable_29 : decode cX2_addFable 29 = .ok (.ireturn, 1) := by decide +kernel
set_option maxRecDepth 20000 in
theorem ggX2_addBeast_X2_needFable : GoodIn wsX2_addBeast wsX2_needFable := goodIn_ca (goodIn_r _ [10, 11, 12, 3, 13, 30, 31, 32, 33, 34, 35, 36, 37, 38, 39, 40] (by decide +kernel) (by decide +kernel)) (goodIn_sub (fun _ h => List.mem_cons_of_mem _ (List.mem_append_right _ h)) (by decide +kernel))
set_option maxRecDepth 20000 in
theorem gX2_addBeast_X2_needFable : GoodIn wsX2_addBeast (wsV RX2 47 RX2 yX2_needFable wsX2_needFable) := goodIn_app (goodIn_of _ (by decide +kernel)) ggX2_addBeast_X2_needFable
set_option maxRecDepth 20000 in
theorem ggX2_addBeast_X2_needBeast : GoodIn wsX2_addBeast wsX2_needBeast := goodIn_ca (goodIn_r _ [16, 11, 12] (by decide +kernel) (by decide +kernel)) (goodIn_sub (fun _ h => List.mem_cons_of_mem _ (List.mem_append_right _ h)) (by decide +kernel))
set_option maxRecDepth 20000 in
theorem gX2_addBeast_X2_needBeast : GoodIn wsX2_addBeast (va_wsS RX2 34 yX2_needBeast wsX2_needBeast) := goodIn_app (goodIn_of _ (by decide +kernel)) ggX2_addBeast_X2_needBeast
set_option maxRecDepth 20000 in
theorem ggX2_addBeast_X2_has : GoodIn wsX2_addBeast wsX2_has := goodIn_r _ [19] (by decide +kernel) (by decide +kernel)
set_option maxRecDepth 20000 in
theorem gX2_addBeast_X2_has : GoodIn wsX2_addBeast (va_wsS RX2 54 yX2_has wsX2_has) := goodIn_app (goodIn_of _ (by decide +kernel)) ggX2_addBeast_X2_has
set_option maxRecDepth 20000 in
theorem ggX2_addBeast_X2_size : GoodIn wsX2_addBeast wsX2_size := goodIn_r _ [22, 23, 24, 25, 26, 27, 28, 29] (by decide +kernel) (by decide +kernel)
set_option maxRecDepth 20000 in
theorem gX2_addBeast_X2_size : GoodIn wsX2_addBeast (va_wsS RX2 70 yX2_size wsX2_size) := goodIn_app (goodIn_of _ (by decide +kernel)) ggX2_addBeast_X2_size
theorem dX2_addBeast_0 : decode cX2_addBeast 0 = .ok (.aload_n 0, 1) := by decide +kernel
theorem dX2_addBeast_1 : decode cX2_addBeast 1 = .ok (.iload_n 1, 1) := by decide +kernel
theorem dX2_addBeast_2 : decode cX2_addBeast 2 = .ok (.invokevirtual 47, 3) := by decide +kernel
theorem dX2_addBeast_5 : decode cX2_addBeast 5 = .ok (.iload_n 2, 1) := by decide +kernel
theorem dX2_addBeast_6 : decode cX2_addBeast 6 = .ok (.invokestatic 34, 3) := by decide +kernel
theorem dX2_addBeast_9 : decode cX2_addBeast 9 = .ok (.aload_n 0, 1) := by decide +kernel
theorem dX2_addBeast_10 : decode cX2_addBeast 10 = .ok (.getfield 10, 3) := by decide +kernel
theorem dX2_addBeast_13 : decode cX2_addBeast 13 = .ok (.getfield 50, 3) := by decide +kernel
theorem dX2_addBeast_16 : decode cX2_addBeast 16 = .ok (.iload_n 1, 1) := by decide +kernel
theorem dX2_addBeast_17 : decode cX2_addBeast 17 = .ok (.iaload, 1) := by decide +kernel
theorem dX2_addBeast_18 : decode cX2_addBeast 18 = .ok (.iload_n 2, 1) := by decide +kernel
theorem dX2_addBeast_19 : decode cX2_addBeast 19 = .ok (.invokestatic 54, 3) := by decide +kernel
theorem dX2_addBeast_22 : decode cX2_addBeast 22 = .ok (.ifCond .eq 13, 3) := by decide +kernel
theorem dX2_addBeast_25 : decode cX2_addBeast 25 = .ok (.new 58, 3) := by decide +kernel
theorem dX2_addBeast_28 : decode cX2_addBeast 28 = .ok (.dup, 1) := by decide +kernel
theorem dX2_addBeast_29 : decode cX2_addBeast 29 = .ok (.ldc 60, 2) := by decide +kernel
theorem dX2_addBeast_31 : decode cX2_addBeast 31 = .ok (.invokespecial 62, 3) := by decide +kernel
theorem dX2_addBeast_34 : decode cX2_addBeast 34 = .ok (.athrow, 1) := by decide +kernel
theorem dX2_addBeast_35 : decode cX2_addBeast 35 = .ok (.aload_n 0, 1) := by decide +kernel
theorem dX2_addBeast_36 : decode cX2_addBeast 36 = .ok (.getfield 10, 3) := by decide +kernel
theorem dX2_addBeast_39 : decode cX2_addBeast 39 = .ok (.getfield 65, 3) := by decide +kernel
theorem dX2_addBeast_42 : decode cX2_addBeast 42 = .ok (.iload_n 1, 1) := by decide +kernel
theorem dX2_addBeast_43 : decode cX2_addBeast 43 = .ok (.iaload, 1) := by decide +kernel
theorem dX2_addBeast_44 : decode cX2_addBeast 44 = .ok (.ifCond .eq 13, 3) := by decide +kernel
theorem dX2_addBeast_47 : decode cX2_addBeast 47 = .ok (.new 58, 3) := by decide +kernel
theorem dX2_addBeast_50 : decode cX2_addBeast 50 = .ok (.dup, 1) := by decide +kernel
theorem dX2_addBeast_51 : decode cX2_addBeast 51 = .ok (.ldc 68, 2) := by decide +kernel
theorem dX2_addBeast_53 : decode cX2_addBeast 53 = .ok (.invokespecial 62, 3) := by decide +kernel
theorem dX2_addBeast_56 : decode cX2_addBeast 56 = .ok (.athrow, 1) := by decide +kernel
theorem dX2_addBeast_57 : decode cX2_addBeast 57 = .ok (.aload_n 0, 1) := by decide +kernel
theorem dX2_addBeast_58 : decode cX2_addBeast 58 = .ok (.getfield 10, 3) := by decide +kernel
theorem dX2_addBeast_61 : decode cX2_addBeast 61 = .ok (.getfield 50, 3) := by decide +kernel
theorem dX2_addBeast_64 : decode cX2_addBeast 64 = .ok (.iload_n 1, 1) := by decide +kernel
theorem dX2_addBeast_65 : decode cX2_addBeast 65 = .ok (.dup2, 1) := by decide +kernel
theorem dX2_addBeast_66 : decode cX2_addBeast 66 = .ok (.iaload, 1) := by decide +kernel
theorem dX2_addBeast_67 : decode cX2_addBeast 67 = .ok (.iconst 1, 1) := by decide +kernel
theorem dX2_addBeast_68 : decode cX2_addBeast 68 = .ok (.iload_n 2, 1) := by decide +kernel
theorem dX2_addBeast_69 : decode cX2_addBeast 69 = .ok (.ishl, 1) := by decide +kernel
theorem dX2_addBeast_70 : decode cX2_addBeast 70 = .ok (.ior, 1) := by decide +kernel
theorem dX2_addBeast_71 : decode cX2_addBeast 71 = .ok (.iastore, 1) := by decide +kernel
theorem dX2_addBeast_72 : decode cX2_addBeast 72 = .ok (.aload_n 0, 1) := by decide +kernel
theorem dX2_addBeast_73 : decode cX2_addBeast 73 = .ok (.getfield 10, 3) := by decide +kernel
theorem dX2_addBeast_76 : decode cX2_addBeast 76 = .ok (.getfield 50, 3) := by decide +kernel
theorem dX2_addBeast_79 : decode cX2_addBeast 79 = .ok (.iload_n 1, 1) := by decide +kernel
theorem dX2_addBeast_80 : decode cX2_addBeast 80 = .ok (.iaload, 1) := by decide +kernel
theorem dX2_addBeast_81 : decode cX2_addBeast 81 = .ok (.invokestatic 70, 3) := by decide +kernel
theorem dX2_addBeast_84 : decode cX2_addBeast 84 = .ok (.ireturn, 1) := by decide +kernel
set_option maxRecDepth 20000 in
theorem ggX2_addVariant_X2_needFable : GoodIn wsX2_addVariant wsX2_needFable := goodIn_ca (goodIn_r _ [10, 11, 12, 3, 13, 42, 43, 44, 45, 46, 47, 48, 49, 50, 51, 52] (by decide +kernel) (by decide +kernel)) (goodIn_sub (fun _ h => List.mem_cons_of_mem _ (List.mem_append_right _ h)) (by decide +kernel))
set_option maxRecDepth 20000 in
theorem gX2_addVariant_X2_needFable : GoodIn wsX2_addVariant (wsV RX2 47 RX2 yX2_needFable wsX2_needFable) := goodIn_app (goodIn_of _ (by decide +kernel)) ggX2_addVariant_X2_needFable
set_option maxRecDepth 20000 in
theorem ggX2_addVariant_X2_needBeast : GoodIn wsX2_addVariant wsX2_needBeast := goodIn_ca (goodIn_r _ [16, 11, 12] (by decide +kernel) (by decide +kernel)) (goodIn_sub (fun _ h => List.mem_cons_of_mem _ (List.mem_append_right _ h)) (by decide +kernel))
set_option maxRecDepth 20000 in
theorem gX2_addVariant_X2_needBeast : GoodIn wsX2_addVariant (va_wsS RX2 34 yX2_needBeast wsX2_needBeast) := goodIn_app (goodIn_of _ (by decide +kernel)) ggX2_addVariant_X2_needBeast
set_option maxRecDepth 20000 in
theorem ggX2_addVariant_X2_needValley : GoodIn wsX2_addVariant wsX2_needValley := goodIn_ca (goodIn_r _ [19, 11, 12] (by decide +kernel) (by decide +kernel)) (goodIn_sub (fun _ h => List.mem_cons_of_mem _ (List.mem_append_right _ h)) (by decide +kernel))
set_option maxRecDepth 20000 in
theorem gX2_addVariant_X2_needValley : GoodIn wsX2_addVariant (va_wsS RX2 37 yX2_needValley wsX2_needValley) := goodIn_app (goodIn_of _ (by decide +kernel)) ggX2_addVariant_X2_needValley
set_option maxRecDepth 20000 in
theorem ggX2_addVariant_X2_needFreePage : GoodIn wsX2_addVariant wsX2_needFreePage := goodIn_ca (goodIn_r _ [23, 1, 2, 3, 13, 42, 43, 44, 45, 46, 47, 48, 49, 50, 51, 52] (by decide +kernel) (by decide +kernel)) (goodIn_sub (fun _ h => List.mem_cons_of_mem _ (List.mem_append_left _ (List.mem_append_right _ h))) (by decide +kernel))
set_option maxRecDepth 20000 in
theorem gX2_addVariant_X2_needFreePage : GoodIn wsX2_addVariant (wsV RX2 40 RX2 yX2_needFreePage wsX2_needFreePage) := goodIn_app (goodIn_of _ (by decide +kernel)) ggX2_addVariant_X2_needFreePage
set_option maxRecDepth 20000 in
theorem ggX2_addVariant_X2_has : GoodIn wsX2_addVariant wsX2_has := goodIn_r _ [26] (by decide +kernel) (by decide +kernel)
set_option maxRecDepth 20000 in
theorem gX2_addVariant_X2_has : GoodIn wsX2_addVariant (va_wsS RX2 54 yX2_has wsX2_has) := goodIn_app (goodIn_of _ (by decide +kernel)) ggX2_addVariant_X2_has
set_option maxRecDepth 20000 in
theorem ggX2_addVariant_X2_turned : GoodIn wsX2_addVariant wsX2_turned := goodIn_r _ [29] (by decide +kernel) (by decide +kernel)
set_option maxRecDepth 20000 in
theorem gX2_addVariant_X2_turned : GoodIn wsX2_addVariant (va_wsS RX2 81 yX2_turned wsX2_turned) := goodIn_app (goodIn_of _ (by decide +kernel)) ggX2_addVariant_X2_turned
set_option maxRecDepth 20000 in
theorem ggX2_addVariant_X0_write : GoodIn wsX2_addVariant wsX0_write := goodIn_r _ [34, 35, 36, 37, 38, 39, 40, 41, 46, 47, 48, 49, 50, 51, 52] (by decide +kernel) (by decide +kernel)
set_option maxRecDepth 20000 in
theorem gX2_addVariant_X0_write : GoodIn wsX2_addVariant (wsV RX2 43 RX0 yX0_write wsX0_write) := goodIn_app (goodIn_of _ (by decide +kernel)) ggX2_addVariant_X0_write
theorem dX2_addVariant_0 : decode cX2_addVariant 0 = .ok (.aload_n 0, 1) := by decide +kernel
theorem dX2_addVariant_1 : decode cX2_addVariant 1 = .ok (.iload_n 1, 1) := by decide +kernel
theorem dX2_addVariant_2 : decode cX2_addVariant 2 = .ok (.invokevirtual 47, 3) := by decide +kernel
theorem dX2_addVariant_5 : decode cX2_addVariant 5 = .ok (.iload_n 2, 1) := by decide +kernel
theorem dX2_addVariant_6 : decode cX2_addVariant 6 = .ok (.invokestatic 34, 3) := by decide +kernel
theorem dX2_addVariant_9 : decode cX2_addVariant 9 = .ok (.iload_n 3, 1) := by decide +kernel
theorem dX2_addVariant_10 : decode cX2_addVariant 10 = .ok (.invokestatic 34, 3) := by decide +kernel
theorem dX2_addVariant_13 : decode cX2_addVariant 13 = .ok (.iload 4, 2) := by decide +kernel
theorem dX2_addVariant_15 : decode cX2_addVariant 15 = .ok (.invokestatic 37, 3) := by decide +kernel
theorem dX2_addVariant_18 : decode cX2_addVariant 18 = .ok (.aload_n 0, 1) := by decide +kernel
theorem dX2_addVariant_19 : decode cX2_addVariant 19 = .ok (.invokevirtual 40, 3) := by decide +kernel
theorem dX2_addVariant_22 : decode cX2_addVariant 22 = .ok (.aload_n 0, 1) := by decide +kernel
theorem dX2_addVariant_23 : decode cX2_addVariant 23 = .ok (.getfield 10, 3) := by decide +kernel
theorem dX2_addVariant_26 : decode cX2_addVariant 26 = .ok (.getfield 50, 3) := by decide +kernel
theorem dX2_addVariant_29 : decode cX2_addVariant 29 = .ok (.iload_n 1, 1) := by decide +kernel
theorem dX2_addVariant_30 : decode cX2_addVariant 30 = .ok (.iaload, 1) := by decide +kernel
theorem dX2_addVariant_31 : decode cX2_addVariant 31 = .ok (.istore 5, 2) := by decide +kernel
theorem dX2_addVariant_33 : decode cX2_addVariant 33 = .ok (.iload 5, 2) := by decide +kernel
theorem dX2_addVariant_35 : decode cX2_addVariant 35 = .ok (.iload_n 2, 1) := by decide +kernel
theorem dX2_addVariant_36 : decode cX2_addVariant 36 = .ok (.invokestatic 54, 3) := by decide +kernel
theorem dX2_addVariant_39 : decode cX2_addVariant 39 = .ok (.ifCond .ne 13, 3) := by decide +kernel
theorem dX2_addVariant_42 : decode cX2_addVariant 42 = .ok (.new 58, 3) := by decide +kernel
theorem dX2_addVariant_45 : decode cX2_addVariant 45 = .ok (.dup, 1) := by decide +kernel
theorem dX2_addVariant_46 : decode cX2_addVariant 46 = .ok (.ldc 74, 2) := by decide +kernel
theorem dX2_addVariant_48 : decode cX2_addVariant 48 = .ok (.invokespecial 62, 3) := by decide +kernel
theorem dX2_addVariant_51 : decode cX2_addVariant 51 = .ok (.athrow, 1) := by decide +kernel
theorem dX2_addVariant_52 : decode cX2_addVariant 52 = .ok (.iload 5, 2) := by decide +kernel
theorem dX2_addVariant_54 : decode cX2_addVariant 54 = .ok (.iload_n 3, 1) := by decide +kernel
theorem dX2_addVariant_55 : decode cX2_addVariant 55 = .ok (.invokestatic 54, 3) := by decide +kernel
theorem dX2_addVariant_58 : decode cX2_addVariant 58 = .ok (.ifCond .eq 13, 3) := by decide +kernel
theorem dX2_addVariant_61 : decode cX2_addVariant 61 = .ok (.new 58, 3) := by decide +kernel
theorem dX2_addVariant_64 : decode cX2_addVariant 64 = .ok (.dup, 1) := by decide +kernel
theorem dX2_addVariant_65 : decode cX2_addVariant 65 = .ok (.ldc 76, 2) := by decide +kernel
theorem dX2_addVariant_67 : decode cX2_addVariant 67 = .ok (.invokespecial 62, 3) := by decide +kernel
theorem dX2_addVariant_70 : decode cX2_addVariant 70 = .ok (.athrow, 1) := by decide +kernel
theorem dX2_addVariant_71 : decode cX2_addVariant 71 = .ok (.aload_n 0, 1) := by decide +kernel
theorem dX2_addVariant_72 : decode cX2_addVariant 72 = .ok (.getfield 10, 3) := by decide +kernel
theorem dX2_addVariant_75 : decode cX2_addVariant 75 = .ok (.aload_n 0, 1) := by decide +kernel
theorem dX2_addVariant_76 : decode cX2_addVariant 76 = .ok (.getfield 10, 3) := by decide +kernel
theorem dX2_addVariant_79 : decode cX2_addVariant 79 = .ok (.getfield 78, 3) := by decide +kernel
theorem dX2_addVariant_82 : decode cX2_addVariant 82 = .ok (.iload_n 1, 1) := by decide +kernel
theorem dX2_addVariant_83 : decode cX2_addVariant 83 = .ok (.iaload, 1) := by decide +kernel
theorem dX2_addVariant_84 : decode cX2_addVariant 84 = .ok (.iload 5, 2) := by decide +kernel
theorem dX2_addVariant_86 : decode cX2_addVariant 86 = .ok (.iload_n 2, 1) := by decide +kernel
theorem dX2_addVariant_87 : decode cX2_addVariant 87 = .ok (.invokestatic 81, 3) := by decide +kernel
theorem dX2_addVariant_90 : decode cX2_addVariant 90 = .ok (.iload_n 3, 1) := by decide +kernel
theorem dX2_addVariant_91 : decode cX2_addVariant 91 = .ok (.invokestatic 81, 3) := by decide +kernel
theorem dX2_addVariant_94 : decode cX2_addVariant 94 = .ok (.iload 4, 2) := by decide +kernel
theorem dX2_addVariant_96 : decode cX2_addVariant 96 = .ok (.iload_n 1, 1) := by decide +kernel
theorem dX2_addVariant_97 : decode cX2_addVariant 97 = .ok (.invokevirtual 43, 3) := by decide +kernel
theorem dX2_addVariant_100 : decode cX2_addVariant 100 = .ok (.ireturn, 1) := by decide +kernel
set_option maxRecDepth 20000 in
theorem ggX2_turnPass_X2_needValley : GoodIn wsX2_turnPass wsX2_needValley := goodIn_ca (goodIn_r _ [8, 9, 10] (by decide +kernel) (by decide +kernel)) (goodIn_sub (fun _ h => List.mem_cons_of_mem _ (List.mem_append_right _ h)) (by decide +kernel))
set_option maxRecDepth 20000 in
theorem gX2_turnPass_X2_needValley : GoodIn wsX2_turnPass (va_wsS RX2 37 yX2_needValley wsX2_needValley) := goodIn_app (goodIn_of _ (by decide +kernel)) ggX2_turnPass_X2_needValley
set_option maxRecDepth 20000 in
theorem ggX2_turnPass_X1_turnWay : GoodIn wsX2_turnPass wsX1_turnWay := goodIn_r _ [15, 16, 17, 7, 18, 26, 27, 28, 29, 30, 31, 32] (by decide +kernel) (by decide +kernel)
set_option maxRecDepth 20000 in
theorem gX2_turnPass_X1_turnWay : GoodIn wsX2_turnPass (wsV RX2 90 RX1 yX1_turnWay wsX1_turnWay) := goodIn_app (goodIn_of _ (by decide +kernel)) ggX2_turnPass_X1_turnWay
set_option maxRecDepth 20000 in
theorem ggX2_turnPass_X2_has : GoodIn wsX2_turnPass wsX2_has := goodIn_r _ [21] (by decide +kernel) (by decide +kernel)
set_option maxRecDepth 20000 in
theorem gX2_turnPass_X2_has : GoodIn wsX2_turnPass (va_wsS RX2 54 yX2_has wsX2_has) := goodIn_app (goodIn_of _ (by decide +kernel)) ggX2_turnPass_X2_has
theorem dX2_turnPass_0 : decode cX2_turnPass 0 = .ok (.iload_n 1, 1) := by decide +kernel
theorem dX2_turnPass_1 : decode cX2_turnPass 1 = .ok (.invokestatic 37, 3) := by decide +kernel
theorem dX2_turnPass_4 : decode cX2_turnPass 4 = .ok (.iload_n 2, 1) := by decide +kernel
theorem dX2_turnPass_5 : decode cX2_turnPass 5 = .ok (.invokestatic 37, 3) := by decide +kernel
theorem dX2_turnPass_8 : decode cX2_turnPass 8 = .ok (.iload_n 1, 1) := by decide +kernel
theorem dX2_turnPass_9 : decode cX2_turnPass 9 = .ok (.iload_n 2, 1) := by decide +kernel
theorem dX2_turnPass_10 : decode cX2_turnPass 10 = .ok (.if_icmp .ne 13, 3) := by decide +kernel
theorem dX2_turnPass_13 : decode cX2_turnPass 13 = .ok (.new 85, 3) := by decide +kernel
theorem dX2_turnPass_16 : decode cX2_turnPass 16 = .ok (.dup, 1) := by decide +kernel
theorem dX2_turnPass_17 : decode cX2_turnPass 17 = .ok (.ldc 87, 2) := by decide +kernel
theorem dX2_turnPass_19 : decode cX2_turnPass 19 = .ok (.invokespecial 89, 3) := by decide +kernel
theorem dX2_turnPass_22 : decode cX2_turnPass 22 = .ok (.athrow, 1) := by decide +kernel
theorem dX2_turnPass_23 : decode cX2_turnPass 23 = .ok (.aload_n 0, 1) := by decide +kernel
theorem dX2_turnPass_24 : decode cX2_turnPass 24 = .ok (.getfield 19, 3) := by decide +kernel
theorem dX2_turnPass_27 : decode cX2_turnPass 27 = .ok (.iload_n 1, 1) := by decide +kernel
theorem dX2_turnPass_28 : decode cX2_turnPass 28 = .ok (.iload_n 2, 1) := by decide +kernel
theorem dX2_turnPass_29 : decode cX2_turnPass 29 = .ok (.invokevirtual 90, 3) := by decide +kernel
theorem dX2_turnPass_32 : decode cX2_turnPass 32 = .ok (.aload_n 0, 1) := by decide +kernel
theorem dX2_turnPass_33 : decode cX2_turnPass 33 = .ok (.getfield 19, 3) := by decide +kernel
theorem dX2_turnPass_36 : decode cX2_turnPass 36 = .ok (.getfield 94, 3) := by decide +kernel
theorem dX2_turnPass_39 : decode cX2_turnPass 39 = .ok (.iload_n 1, 1) := by decide +kernel
theorem dX2_turnPass_40 : decode cX2_turnPass 40 = .ok (.iaload, 1) := by decide +kernel
theorem dX2_turnPass_41 : decode cX2_turnPass 41 = .ok (.iload_n 2, 1) := by decide +kernel
theorem dX2_turnPass_42 : decode cX2_turnPass 42 = .ok (.invokestatic 54, 3) := by decide +kernel
theorem dX2_turnPass_45 : decode cX2_turnPass 45 = .ok (.ireturn, 1) := by decide +kernel
set_option maxRecDepth 20000 in
theorem ggX2_turnMoral_X2_needValley : GoodIn wsX2_turnMoral wsX2_needValley := goodIn_ca (goodIn_r _ [6, 7, 8] (by decide +kernel) (by decide +kernel)) (goodIn_sub (fun _ h => List.mem_cons_of_mem _ (List.mem_append_right _ h)) (by decide +kernel))
set_option maxRecDepth 20000 in
theorem gX2_turnMoral_X2_needValley : GoodIn wsX2_turnMoral (va_wsS RX2 37 yX2_needValley wsX2_needValley) := goodIn_app (goodIn_of _ (by decide +kernel)) ggX2_turnMoral_X2_needValley
set_option maxRecDepth 20000 in
theorem ggX2_turnMoral_X2_needMoral : GoodIn wsX2_turnMoral wsX2_needMoral := goodIn_ca (goodIn_r _ [11, 7, 8] (by decide +kernel) (by decide +kernel)) (goodIn_sub (fun _ h => List.mem_cons_of_mem _ (List.mem_append_right _ h)) (by decide +kernel))
set_option maxRecDepth 20000 in
theorem gX2_turnMoral_X2_needMoral : GoodIn wsX2_turnMoral (va_wsS RX2 30 yX2_needMoral wsX2_needMoral) := goodIn_app (goodIn_of _ (by decide +kernel)) ggX2_turnMoral_X2_needMoral
set_option maxRecDepth 20000 in
theorem ggX2_turnMoral_X2_turned : GoodIn wsX2_turnMoral wsX2_turned := goodIn_r _ [14] (by decide +kernel) (by decide +kernel)
set_option maxRecDepth 20000 in
theorem gX2_turnMoral_X2_turned : GoodIn wsX2_turnMoral (va_wsS RX2 81 yX2_turned wsX2_turned) := goodIn_app (goodIn_of _ (by decide +kernel)) ggX2_turnMoral_X2_turned
set_option maxRecDepth 20000 in
theorem ggX2_turnMoral_X2_has : GoodIn wsX2_turnMoral wsX2_has := goodIn_r _ [17] (by decide +kernel) (by decide +kernel)
set_option maxRecDepth 20000 in
theorem gX2_turnMoral_X2_has : GoodIn wsX2_turnMoral (va_wsS RX2 54 yX2_has wsX2_has) := goodIn_app (goodIn_of _ (by decide +kernel)) ggX2_turnMoral_X2_has
theorem dX2_turnMoral_0 : decode cX2_turnMoral 0 = .ok (.iload_n 1, 1) := by decide +kernel
theorem dX2_turnMoral_1 : decode cX2_turnMoral 1 = .ok (.invokestatic 37, 3) := by decide +kernel
theorem dX2_turnMoral_4 : decode cX2_turnMoral 4 = .ok (.iload_n 2, 1) := by decide +kernel
theorem dX2_turnMoral_5 : decode cX2_turnMoral 5 = .ok (.invokestatic 30, 3) := by decide +kernel
theorem dX2_turnMoral_8 : decode cX2_turnMoral 8 = .ok (.aload_n 0, 1) := by decide +kernel
theorem dX2_turnMoral_9 : decode cX2_turnMoral 9 = .ok (.getfield 19, 3) := by decide +kernel
theorem dX2_turnMoral_12 : decode cX2_turnMoral 12 = .ok (.getfield 97, 3) := by decide +kernel
theorem dX2_turnMoral_15 : decode cX2_turnMoral 15 = .ok (.iload_n 1, 1) := by decide +kernel
theorem dX2_turnMoral_16 : decode cX2_turnMoral 16 = .ok (.aload_n 0, 1) := by decide +kernel
theorem dX2_turnMoral_17 : decode cX2_turnMoral 17 = .ok (.getfield 19, 3) := by decide +kernel
theorem dX2_turnMoral_20 : decode cX2_turnMoral 20 = .ok (.getfield 97, 3) := by decide +kernel
theorem dX2_turnMoral_23 : decode cX2_turnMoral 23 = .ok (.iload_n 1, 1) := by decide +kernel
theorem dX2_turnMoral_24 : decode cX2_turnMoral 24 = .ok (.iaload, 1) := by decide +kernel
theorem dX2_turnMoral_25 : decode cX2_turnMoral 25 = .ok (.iload_n 2, 1) := by decide +kernel
theorem dX2_turnMoral_26 : decode cX2_turnMoral 26 = .ok (.invokestatic 81, 3) := by decide +kernel
theorem dX2_turnMoral_29 : decode cX2_turnMoral 29 = .ok (.iastore, 1) := by decide +kernel
theorem dX2_turnMoral_30 : decode cX2_turnMoral 30 = .ok (.aload_n 0, 1) := by decide +kernel
theorem dX2_turnMoral_31 : decode cX2_turnMoral 31 = .ok (.getfield 19, 3) := by decide +kernel
theorem dX2_turnMoral_34 : decode cX2_turnMoral 34 = .ok (.getfield 97, 3) := by decide +kernel
theorem dX2_turnMoral_37 : decode cX2_turnMoral 37 = .ok (.iload_n 1, 1) := by decide +kernel
theorem dX2_turnMoral_38 : decode cX2_turnMoral 38 = .ok (.iaload, 1) := by decide +kernel
theorem dX2_turnMoral_39 : decode cX2_turnMoral 39 = .ok (.iload_n 2, 1) := by decide +kernel
theorem dX2_turnMoral_40 : decode cX2_turnMoral 40 = .ok (.invokestatic 54, 3) := by decide +kernel
theorem dX2_turnMoral_43 : decode cX2_turnMoral 43 = .ok (.ireturn, 1) := by decide +kernel
set_option maxRecDepth 20000 in
theorem ggX2_turnBeast_X2_needValley : GoodIn wsX2_turnBeast wsX2_needValley := goodIn_ca (goodIn_r _ [6, 7, 8] (by decide +kernel) (by decide +kernel)) (goodIn_sub (fun _ h => List.mem_cons_of_mem _ (List.mem_append_right _ h)) (by decide +kernel))
set_option maxRecDepth 20000 in
theorem gX2_turnBeast_X2_needValley : GoodIn wsX2_turnBeast (va_wsS RX2 37 yX2_needValley wsX2_needValley) := goodIn_app (goodIn_of _ (by decide +kernel)) ggX2_turnBeast_X2_needValley
set_option maxRecDepth 20000 in
theorem ggX2_turnBeast_X2_needBeast : GoodIn wsX2_turnBeast wsX2_needBeast := goodIn_ca (goodIn_r _ [11, 7, 8] (by decide +kernel) (by decide +kernel)) (goodIn_sub (fun _ h => List.mem_cons_of_mem _ (List.mem_append_right _ h)) (by decide +kernel))
set_option maxRecDepth 20000 in
theorem gX2_turnBeast_X2_needBeast : GoodIn wsX2_turnBeast (va_wsS RX2 34 yX2_needBeast wsX2_needBeast) := goodIn_app (goodIn_of _ (by decide +kernel)) ggX2_turnBeast_X2_needBeast
set_option maxRecDepth 20000 in
theorem ggX2_turnBeast_X2_turned : GoodIn wsX2_turnBeast wsX2_turned := goodIn_r _ [14] (by decide +kernel) (by decide +kernel)
set_option maxRecDepth 20000 in
theorem gX2_turnBeast_X2_turned : GoodIn wsX2_turnBeast (va_wsS RX2 81 yX2_turned wsX2_turned) := goodIn_app (goodIn_of _ (by decide +kernel)) ggX2_turnBeast_X2_turned
set_option maxRecDepth 20000 in
theorem ggX2_turnBeast_X2_has : GoodIn wsX2_turnBeast wsX2_has := goodIn_r _ [17] (by decide +kernel) (by decide +kernel)
set_option maxRecDepth 20000 in
theorem gX2_turnBeast_X2_has : GoodIn wsX2_turnBeast (va_wsS RX2 54 yX2_has wsX2_has) := goodIn_app (goodIn_of _ (by decide +kernel)) ggX2_turnBeast_X2_has
theorem dX2_turnBeast_0 : decode cX2_turnBeast 0 = .ok (.iload_n 1, 1) := by decide +kernel
theorem dX2_turnBeast_1 : decode cX2_turnBeast 1 = .ok (.invokestatic 37, 3) := by decide +kernel
theorem dX2_turnBeast_4 : decode cX2_turnBeast 4 = .ok (.iload_n 2, 1) := by decide +kernel
theorem dX2_turnBeast_5 : decode cX2_turnBeast 5 = .ok (.invokestatic 34, 3) := by decide +kernel
theorem dX2_turnBeast_8 : decode cX2_turnBeast 8 = .ok (.aload_n 0, 1) := by decide +kernel
theorem dX2_turnBeast_9 : decode cX2_turnBeast 9 = .ok (.getfield 19, 3) := by decide +kernel
theorem dX2_turnBeast_12 : decode cX2_turnBeast 12 = .ok (.getfield 100, 3) := by decide +kernel
theorem dX2_turnBeast_15 : decode cX2_turnBeast 15 = .ok (.iload_n 1, 1) := by decide +kernel
theorem dX2_turnBeast_16 : decode cX2_turnBeast 16 = .ok (.aload_n 0, 1) := by decide +kernel
theorem dX2_turnBeast_17 : decode cX2_turnBeast 17 = .ok (.getfield 19, 3) := by decide +kernel
theorem dX2_turnBeast_20 : decode cX2_turnBeast 20 = .ok (.getfield 100, 3) := by decide +kernel
theorem dX2_turnBeast_23 : decode cX2_turnBeast 23 = .ok (.iload_n 1, 1) := by decide +kernel
theorem dX2_turnBeast_24 : decode cX2_turnBeast 24 = .ok (.iaload, 1) := by decide +kernel
theorem dX2_turnBeast_25 : decode cX2_turnBeast 25 = .ok (.iload_n 2, 1) := by decide +kernel
theorem dX2_turnBeast_26 : decode cX2_turnBeast 26 = .ok (.invokestatic 81, 3) := by decide +kernel
theorem dX2_turnBeast_29 : decode cX2_turnBeast 29 = .ok (.iastore, 1) := by decide +kernel
theorem dX2_turnBeast_30 : decode cX2_turnBeast 30 = .ok (.aload_n 0, 1) := by decide +kernel
theorem dX2_turnBeast_31 : decode cX2_turnBeast 31 = .ok (.getfield 19, 3) := by decide +kernel
theorem dX2_turnBeast_34 : decode cX2_turnBeast 34 = .ok (.getfield 100, 3) := by decide +kernel
theorem dX2_turnBeast_37 : decode cX2_turnBeast 37 = .ok (.iload_n 1, 1) := by decide +kernel
theorem dX2_turnBeast_38 : decode cX2_turnBeast 38 = .ok (.iaload, 1) := by decide +kernel
theorem dX2_turnBeast_39 : decode cX2_turnBeast 39 = .ok (.iload_n 2, 1) := by decide +kernel
theorem dX2_turnBeast_40 : decode cX2_turnBeast 40 = .ok (.invokestatic 54, 3) := by decide +kernel
theorem dX2_turnBeast_43 : decode cX2_turnBeast 43 = .ok (.ireturn, 1) := by decide +kernel
set_option maxRecDepth 20000 in
theorem ggX2_tell_X2_needFable : GoodIn wsX2_tell wsX2_needFable := goodIn_ca (goodIn_r _ [10, 11, 12, 5, 13, 43, 44, 45, 46, 54, 55, 56, 57, 58, 59, 60] (by decide +kernel) (by decide +kernel)) (goodIn_sub (fun _ h => List.mem_cons_of_mem _ (List.mem_append_right _ h)) (by decide +kernel))
set_option maxRecDepth 20000 in
theorem gX2_tell_X2_needFable : GoodIn wsX2_tell (wsV RX2 47 RX2 yX2_needFable wsX2_needFable) := goodIn_app (goodIn_of _ (by decide +kernel)) ggX2_tell_X2_needFable
set_option maxRecDepth 20000 in
theorem ggX2_tell_X2_needValley : GoodIn wsX2_tell wsX2_needValley := goodIn_ca (goodIn_r _ [16, 11, 12] (by decide +kernel) (by decide +kernel)) (goodIn_sub (fun _ h => List.mem_cons_of_mem _ (List.mem_append_right _ h)) (by decide +kernel))
set_option maxRecDepth 20000 in
theorem gX2_tell_X2_needValley : GoodIn wsX2_tell (va_wsS RX2 37 yX2_needValley wsX2_needValley) := goodIn_app (goodIn_of _ (by decide +kernel)) ggX2_tell_X2_needValley
set_option maxRecDepth 20000 in
theorem ggX2_tell_X2_has : GoodIn wsX2_tell wsX2_has := goodIn_r _ [19] (by decide +kernel) (by decide +kernel)
set_option maxRecDepth 20000 in
theorem gX2_tell_X2_has : GoodIn wsX2_tell (va_wsS RX2 54 yX2_has wsX2_has) := goodIn_app (goodIn_of _ (by decide +kernel)) ggX2_tell_X2_has
set_option maxRecDepth 20000 in
theorem ggX2_tell_X1_bans : GoodIn wsX2_tell wsX1_bans := goodIn_r _ [24, 25, 26, 27, 28, 18, 9, 19, 47, 48, 49, 50, 51, 52, 53, 54, 55, 56, 57, 58, 59, 60] (by decide +kernel) (by decide +kernel)
set_option maxRecDepth 20000 in
theorem gX2_tell_X1_bans : GoodIn wsX2_tell (wsV RX2 108 RX1 yX1_bans wsX1_bans) := goodIn_app (goodIn_of _ (by decide +kernel)) ggX2_tell_X1_bans
set_option maxRecDepth 20000 in
theorem ggX2_tell_X1_count : GoodIn wsX2_tell wsX1_count := goodIn_r _ [32, 33, 34, 9, 35, 36, 37, 38, 39, 40, 41, 42, 47, 48, 49, 50, 51, 52, 53] (by decide +kernel) (by decide +kernel)
set_option maxRecDepth 20000 in
theorem gX2_tell_X1_count : GoodIn wsX2_tell (wsV RX2 114 RX1 yX1_count wsX1_count) := goodIn_app (goodIn_of _ (by decide +kernel)) ggX2_tell_X1_count
theorem dX2_tell_0 : decode cX2_tell 0 = .ok (.aload_n 0, 1) := by decide +kernel
theorem dX2_tell_1 : decode cX2_tell 1 = .ok (.iload_n 1, 1) := by decide +kernel
theorem dX2_tell_2 : decode cX2_tell 2 = .ok (.invokevirtual 47, 3) := by decide +kernel
theorem dX2_tell_5 : decode cX2_tell 5 = .ok (.iload_n 2, 1) := by decide +kernel
theorem dX2_tell_6 : decode cX2_tell 6 = .ok (.invokestatic 37, 3) := by decide +kernel
theorem dX2_tell_9 : decode cX2_tell 9 = .ok (.aload_n 0, 1) := by decide +kernel
theorem dX2_tell_10 : decode cX2_tell 10 = .ok (.getfield 19, 3) := by decide +kernel
theorem dX2_tell_13 : decode cX2_tell 13 = .ok (.getfield 103, 3) := by decide +kernel
theorem dX2_tell_16 : decode cX2_tell 16 = .ok (.iload_n 2, 1) := by decide +kernel
theorem dX2_tell_17 : decode cX2_tell 17 = .ok (.iaload, 1) := by decide +kernel
theorem dX2_tell_18 : decode cX2_tell 18 = .ok (.iload_n 1, 1) := by decide +kernel
theorem dX2_tell_19 : decode cX2_tell 19 = .ok (.invokestatic 54, 3) := by decide +kernel
theorem dX2_tell_22 : decode cX2_tell 22 = .ok (.ifCond .eq 13, 3) := by decide +kernel
theorem dX2_tell_25 : decode cX2_tell 25 = .ok (.new 58, 3) := by decide +kernel
theorem dX2_tell_28 : decode cX2_tell 28 = .ok (.dup, 1) := by decide +kernel
theorem dX2_tell_29 : decode cX2_tell 29 = .ok (.ldc 106, 2) := by decide +kernel
theorem dX2_tell_31 : decode cX2_tell 31 = .ok (.invokespecial 62, 3) := by decide +kernel
theorem dX2_tell_34 : decode cX2_tell 34 = .ok (.athrow, 1) := by decide +kernel
theorem dX2_tell_35 : decode cX2_tell 35 = .ok (.aload_n 0, 1) := by decide +kernel
theorem dX2_tell_36 : decode cX2_tell 36 = .ok (.getfield 19, 3) := by decide +kernel
theorem dX2_tell_39 : decode cX2_tell 39 = .ok (.aload_n 0, 1) := by decide +kernel
theorem dX2_tell_40 : decode cX2_tell 40 = .ok (.getfield 10, 3) := by decide +kernel
theorem dX2_tell_43 : decode cX2_tell 43 = .ok (.iload_n 1, 1) := by decide +kernel
theorem dX2_tell_44 : decode cX2_tell 44 = .ok (.iload_n 2, 1) := by decide +kernel
theorem dX2_tell_45 : decode cX2_tell 45 = .ok (.invokevirtual 108, 3) := by decide +kernel
theorem dX2_tell_48 : decode cX2_tell 48 = .ok (.ifCond .eq 13, 3) := by decide +kernel
theorem dX2_tell_51 : decode cX2_tell 51 = .ok (.new 58, 3) := by decide +kernel
theorem dX2_tell_54 : decode cX2_tell 54 = .ok (.dup, 1) := by decide +kernel
theorem dX2_tell_55 : decode cX2_tell 55 = .ok (.ldc 112, 2) := by decide +kernel
theorem dX2_tell_57 : decode cX2_tell 57 = .ok (.invokespecial 62, 3) := by decide +kernel
theorem dX2_tell_60 : decode cX2_tell 60 = .ok (.athrow, 1) := by decide +kernel
theorem dX2_tell_61 : decode cX2_tell 61 = .ok (.aload_n 0, 1) := by decide +kernel
theorem dX2_tell_62 : decode cX2_tell 62 = .ok (.getfield 19, 3) := by decide +kernel
theorem dX2_tell_65 : decode cX2_tell 65 = .ok (.getfield 103, 3) := by decide +kernel
theorem dX2_tell_68 : decode cX2_tell 68 = .ok (.iload_n 2, 1) := by decide +kernel
theorem dX2_tell_69 : decode cX2_tell 69 = .ok (.dup2, 1) := by decide +kernel
theorem dX2_tell_70 : decode cX2_tell 70 = .ok (.iaload, 1) := by decide +kernel
theorem dX2_tell_71 : decode cX2_tell 71 = .ok (.iconst 1, 1) := by decide +kernel
theorem dX2_tell_72 : decode cX2_tell 72 = .ok (.iload_n 1, 1) := by decide +kernel
theorem dX2_tell_73 : decode cX2_tell 73 = .ok (.ishl, 1) := by decide +kernel
theorem dX2_tell_74 : decode cX2_tell 74 = .ok (.ior, 1) := by decide +kernel
theorem dX2_tell_75 : decode cX2_tell 75 = .ok (.iastore, 1) := by decide +kernel
theorem dX2_tell_76 : decode cX2_tell 76 = .ok (.aload_n 0, 1) := by decide +kernel
theorem dX2_tell_77 : decode cX2_tell 77 = .ok (.getfield 19, 3) := by decide +kernel
theorem dX2_tell_80 : decode cX2_tell 80 = .ok (.iconst 1, 1) := by decide +kernel
theorem dX2_tell_81 : decode cX2_tell 81 = .ok (.iload_n 1, 1) := by decide +kernel
theorem dX2_tell_82 : decode cX2_tell 82 = .ok (.ishl, 1) := by decide +kernel
theorem dX2_tell_83 : decode cX2_tell 83 = .ok (.invokevirtual 114, 3) := by decide +kernel
theorem dX2_tell_86 : decode cX2_tell 86 = .ok (.ireturn, 1) := by decide +kernel
set_option maxRecDepth 20000 in
theorem ggX2_forget_X2_needFable : GoodIn wsX2_forget wsX2_needFable := goodIn_ca (goodIn_r _ [9, 10, 11, 12, 13, 38, 39, 40, 41, 49, 50, 51, 52, 53, 54, 55] (by decide +kernel) (by decide +kernel)) (goodIn_sub (fun _ h => List.mem_cons_of_mem _ (List.mem_append_right _ h)) (by decide +kernel))
set_option maxRecDepth 20000 in
theorem gX2_forget_X2_needFable : GoodIn wsX2_forget (wsV RX2 47 RX2 yX2_needFable wsX2_needFable) := goodIn_app (goodIn_of _ (by decide +kernel)) ggX2_forget_X2_needFable
set_option maxRecDepth 20000 in
theorem ggX2_forget_X2_needValley : GoodIn wsX2_forget wsX2_needValley := goodIn_ca (goodIn_r _ [16, 10, 11] (by decide +kernel) (by decide +kernel)) (goodIn_sub (fun _ h => List.mem_cons_of_mem _ (List.mem_append_right _ h)) (by decide +kernel))
set_option maxRecDepth 20000 in
theorem gX2_forget_X2_needValley : GoodIn wsX2_forget (va_wsS RX2 37 yX2_needValley wsX2_needValley) := goodIn_app (goodIn_of _ (by decide +kernel)) ggX2_forget_X2_needValley
set_option maxRecDepth 20000 in
theorem ggX2_forget_X2_has : GoodIn wsX2_forget wsX2_has := goodIn_r _ [19] (by decide +kernel) (by decide +kernel)
set_option maxRecDepth 20000 in
theorem gX2_forget_X2_has : GoodIn wsX2_forget (va_wsS RX2 54 yX2_has wsX2_has) := goodIn_app (goodIn_of _ (by decide +kernel)) ggX2_forget_X2_has
set_option maxRecDepth 20000 in
theorem ggX2_forget_X2_turned : GoodIn wsX2_forget wsX2_turned := goodIn_r _ [22] (by decide +kernel) (by decide +kernel)
set_option maxRecDepth 20000 in
theorem gX2_forget_X2_turned : GoodIn wsX2_forget (va_wsS RX2 81 yX2_turned wsX2_turned) := goodIn_app (goodIn_of _ (by decide +kernel)) ggX2_forget_X2_turned
set_option maxRecDepth 20000 in
theorem ggX2_forget_X1_count : GoodIn wsX2_forget wsX1_count := goodIn_r _ [27, 28, 29, 8, 30, 31, 32, 33, 34, 35, 36, 37, 42, 43, 44, 45, 46, 47, 48] (by decide +kernel) (by decide +kernel)
set_option maxRecDepth 20000 in
theorem gX2_forget_X1_count : GoodIn wsX2_forget (wsV RX2 114 RX1 yX1_count wsX1_count) := goodIn_app (goodIn_of _ (by decide +kernel)) ggX2_forget_X1_count
theorem dX2_forget_0 : decode cX2_forget 0 = .ok (.aload_n 0, 1) := by decide +kernel
theorem dX2_forget_1 : decode cX2_forget 1 = .ok (.iload_n 1, 1) := by decide +kernel
theorem dX2_forget_2 : decode cX2_forget 2 = .ok (.invokevirtual 47, 3) := by decide +kernel
theorem dX2_forget_5 : decode cX2_forget 5 = .ok (.iload_n 2, 1) := by decide +kernel
theorem dX2_forget_6 : decode cX2_forget 6 = .ok (.invokestatic 37, 3) := by decide +kernel
theorem dX2_forget_9 : decode cX2_forget 9 = .ok (.aload_n 0, 1) := by decide +kernel
theorem dX2_forget_10 : decode cX2_forget 10 = .ok (.getfield 19, 3) := by decide +kernel
theorem dX2_forget_13 : decode cX2_forget 13 = .ok (.getfield 103, 3) := by decide +kernel
theorem dX2_forget_16 : decode cX2_forget 16 = .ok (.iload_n 2, 1) := by decide +kernel
theorem dX2_forget_17 : decode cX2_forget 17 = .ok (.iaload, 1) := by decide +kernel
theorem dX2_forget_18 : decode cX2_forget 18 = .ok (.iload_n 1, 1) := by decide +kernel
theorem dX2_forget_19 : decode cX2_forget 19 = .ok (.invokestatic 54, 3) := by decide +kernel
theorem dX2_forget_22 : decode cX2_forget 22 = .ok (.ifCond .ne 13, 3) := by decide +kernel
theorem dX2_forget_25 : decode cX2_forget 25 = .ok (.new 58, 3) := by decide +kernel
theorem dX2_forget_28 : decode cX2_forget 28 = .ok (.dup, 1) := by decide +kernel
theorem dX2_forget_29 : decode cX2_forget 29 = .ok (.ldc 117, 2) := by decide +kernel
theorem dX2_forget_31 : decode cX2_forget 31 = .ok (.invokespecial 62, 3) := by decide +kernel
theorem dX2_forget_34 : decode cX2_forget 34 = .ok (.athrow, 1) := by decide +kernel
theorem dX2_forget_35 : decode cX2_forget 35 = .ok (.aload_n 0, 1) := by decide +kernel
theorem dX2_forget_36 : decode cX2_forget 36 = .ok (.getfield 19, 3) := by decide +kernel
theorem dX2_forget_39 : decode cX2_forget 39 = .ok (.getfield 103, 3) := by decide +kernel
theorem dX2_forget_42 : decode cX2_forget 42 = .ok (.iload_n 2, 1) := by decide +kernel
theorem dX2_forget_43 : decode cX2_forget 43 = .ok (.aload_n 0, 1) := by decide +kernel
theorem dX2_forget_44 : decode cX2_forget 44 = .ok (.getfield 19, 3) := by decide +kernel
theorem dX2_forget_47 : decode cX2_forget 47 = .ok (.getfield 103, 3) := by decide +kernel
theorem dX2_forget_50 : decode cX2_forget 50 = .ok (.iload_n 2, 1) := by decide +kernel
theorem dX2_forget_51 : decode cX2_forget 51 = .ok (.iaload, 1) := by decide +kernel
theorem dX2_forget_52 : decode cX2_forget 52 = .ok (.iload_n 1, 1) := by decide +kernel
theorem dX2_forget_53 : decode cX2_forget 53 = .ok (.invokestatic 81, 3) := by decide +kernel
theorem dX2_forget_56 : decode cX2_forget 56 = .ok (.iastore, 1) := by decide +kernel
theorem dX2_forget_57 : decode cX2_forget 57 = .ok (.aload_n 0, 1) := by decide +kernel
theorem dX2_forget_58 : decode cX2_forget 58 = .ok (.getfield 19, 3) := by decide +kernel
theorem dX2_forget_61 : decode cX2_forget 61 = .ok (.iconst 1, 1) := by decide +kernel
theorem dX2_forget_62 : decode cX2_forget 62 = .ok (.iload_n 1, 1) := by decide +kernel
theorem dX2_forget_63 : decode cX2_forget 63 = .ok (.ishl, 1) := by decide +kernel
theorem dX2_forget_64 : decode cX2_forget 64 = .ok (.invokevirtual 114, 3) := by decide +kernel
theorem dX2_forget_67 : decode cX2_forget 67 = .ok (.ireturn, 1) := by decide +kernel
set_option maxRecDepth 20000 in
theorem ggX2_passSeasons_X2_needSeasons : GoodIn wsX2_passSeasons wsX2_needSeasons := goodIn_ca (goodIn_r _ [7, 8, 9] (by decide +kernel) (by decide +kernel)) (goodIn_sub (fun _ h => List.mem_cons_of_mem _ (List.mem_append_right _ h)) (by decide +kernel))
set_option maxRecDepth 20000 in
theorem gX2_passSeasons_X2_needSeasons : GoodIn wsX2_passSeasons (va_wsS RX2 119 yX2_needSeasons wsX2_needSeasons) := goodIn_app (goodIn_of _ (by decide +kernel)) ggX2_passSeasons_X2_needSeasons
set_option maxRecDepth 20000 in
theorem ggX2_passSeasons_X1_live : GoodIn wsX2_passSeasons wsX1_live := goodIn_r _ [14, 15, 16, 17, 18, 13, 19, 20, 21, 22, 23, 24, 25, 26, 27, 28, 29, 6, 30, 31, 32, 33, 34, 35, 36, 37, 38, 39, 40, 41, 42, 43, 44, 45, 46, 47, 48, 49, 50, 51, 52, 53, 54, 55, 56, 57, 58, 59, 60, 61, 62, 77, 78, 79, 80, 81, 82, 83, 84, 85, 86, 87, 88, 89, 90] (by decide +kernel) (by decide +kernel)
set_option maxRecDepth 20000 in
theorem gX2_passSeasons_X1_live : GoodIn wsX2_passSeasons (wsV RX2 122 RX1 yX1_live wsX1_live) := goodIn_app (goodIn_of _ (by decide +kernel)) ggX2_passSeasons_X1_live
set_option maxRecDepth 20000 in
theorem ggX2_passSeasons_X0_all : GoodIn wsX2_passSeasons wsX0_all := goodIn_r _ [67, 68, 84, 85, 86, 87, 88, 89, 90] (by decide +kernel) (by decide +kernel)
set_option maxRecDepth 20000 in
theorem gX2_passSeasons_X0_all : GoodIn wsX2_passSeasons (wsV RX2 126 RX0 yX0_all wsX0_all) := goodIn_app (goodIn_of _ (by decide +kernel)) ggX2_passSeasons_X0_all
set_option maxRecDepth 20000 in
theorem ggX2_passSeasons_X1_count : GoodIn wsX2_passSeasons wsX1_count := goodIn_r _ [72, 36, 38, 6, 39, 40, 41, 42, 43, 44, 45, 46, 77, 78, 79, 80, 81, 82, 83] (by decide +kernel) (by decide +kernel)
set_option maxRecDepth 20000 in
theorem gX2_passSeasons_X1_count : GoodIn wsX2_passSeasons (wsV RX2 114 RX1 yX1_count wsX1_count) := goodIn_app (goodIn_of _ (by decide +kernel)) ggX2_passSeasons_X1_count
theorem dX2_passSeasons_0 : decode cX2_passSeasons 0 = .ok (.iload_n 1, 1) := by decide +kernel
theorem dX2_passSeasons_1 : decode cX2_passSeasons 1 = .ok (.bipush 40, 2) := by decide +kernel
theorem dX2_passSeasons_3 : decode cX2_passSeasons 3 = .ok (.invokestatic 119, 3) := by decide +kernel
theorem dX2_passSeasons_6 : decode cX2_passSeasons 6 = .ok (.aload_n 0, 1) := by decide +kernel
theorem dX2_passSeasons_7 : decode cX2_passSeasons 7 = .ok (.getfield 19, 3) := by decide +kernel
theorem dX2_passSeasons_10 : decode cX2_passSeasons 10 = .ok (.aload_n 0, 1) := by decide +kernel
theorem dX2_passSeasons_11 : decode cX2_passSeasons 11 = .ok (.getfield 10, 3) := by decide +kernel
theorem dX2_passSeasons_14 : decode cX2_passSeasons 14 = .ok (.iload_n 1, 1) := by decide +kernel
theorem dX2_passSeasons_15 : decode cX2_passSeasons 15 = .ok (.invokevirtual 122, 3) := by decide +kernel
theorem dX2_passSeasons_18 : decode cX2_passSeasons 18 = .ok (.aload_n 0, 1) := by decide +kernel
theorem dX2_passSeasons_19 : decode cX2_passSeasons 19 = .ok (.dup, 1) := by decide +kernel
theorem dX2_passSeasons_20 : decode cX2_passSeasons 20 = .ok (.getfield 26, 3) := by decide +kernel
theorem dX2_passSeasons_23 : decode cX2_passSeasons 23 = .ok (.iload_n 1, 1) := by decide +kernel
theorem dX2_passSeasons_24 : decode cX2_passSeasons 24 = .ok (.iadd, 1) := by decide +kernel
theorem dX2_passSeasons_25 : decode cX2_passSeasons 25 = .ok (.putfield 26, 3) := by decide +kernel
theorem dX2_passSeasons_28 : decode cX2_passSeasons 28 = .ok (.aload_n 0, 1) := by decide +kernel
theorem dX2_passSeasons_29 : decode cX2_passSeasons 29 = .ok (.getfield 19, 3) := by decide +kernel
theorem dX2_passSeasons_32 : decode cX2_passSeasons 32 = .ok (.aload_n 0, 1) := by decide +kernel
theorem dX2_passSeasons_33 : decode cX2_passSeasons 33 = .ok (.getfield 10, 3) := by decide +kernel
theorem dX2_passSeasons_36 : decode cX2_passSeasons 36 = .ok (.invokevirtual 126, 3) := by decide +kernel
theorem dX2_passSeasons_39 : decode cX2_passSeasons 39 = .ok (.invokevirtual 114, 3) := by decide +kernel
theorem dX2_passSeasons_42 : decode cX2_passSeasons 42 = .ok (.ireturn, 1) := by decide +kernel
set_option maxRecDepth 20000 in
theorem ggX2_moralOf_X2_needFable : GoodIn wsX2_moralOf wsX2_needFable := goodIn_ca (goodIn_r _ [7, 8, 9, 1, 10, 11, 12, 13, 14, 15, 16, 17, 18, 19, 20, 21] (by decide +kernel) (by decide +kernel)) (goodIn_sub (fun _ h => List.mem_cons_of_mem _ (List.mem_append_right _ h)) (by decide +kernel))
set_option maxRecDepth 20000 in
theorem gX2_moralOf_X2_needFable : GoodIn wsX2_moralOf (wsV RX2 47 RX2 yX2_needFable wsX2_needFable) := goodIn_app (goodIn_of _ (by decide +kernel)) ggX2_moralOf_X2_needFable
theorem dX2_moralOf_0 : decode cX2_moralOf 0 = .ok (.aload_n 0, 1) := by decide +kernel
theorem dX2_moralOf_1 : decode cX2_moralOf 1 = .ok (.iload_n 1, 1) := by decide +kernel
theorem dX2_moralOf_2 : decode cX2_moralOf 2 = .ok (.invokevirtual 47, 3) := by decide +kernel
theorem dX2_moralOf_5 : decode cX2_moralOf 5 = .ok (.aload_n 0, 1) := by decide +kernel
theorem dX2_moralOf_6 : decode cX2_moralOf 6 = .ok (.getfield 10, 3) := by decide +kernel
theorem dX2_moralOf_9 : decode cX2_moralOf 9 = .ok (.getfield 78, 3) := by decide +kernel
theorem dX2_moralOf_12 : decode cX2_moralOf 12 = .ok (.iload_n 1, 1) := by decide +kernel
theorem dX2_moralOf_13 : decode cX2_moralOf 13 = .ok (.iaload, 1) := by decide +kernel
theorem dX2_moralOf_14 : decode cX2_moralOf 14 = .ok (.ireturn, 1) := by decide +kernel
set_option maxRecDepth 20000 in
theorem ggX2_beastsOf_X2_needFable : GoodIn wsX2_beastsOf wsX2_needFable := goodIn_ca (goodIn_r _ [7, 8, 9, 1, 10, 21, 22, 23, 24, 25, 26, 27, 28, 29, 30, 31] (by decide +kernel) (by decide +kernel)) (goodIn_sub (fun _ h => List.mem_cons_of_mem _ (List.mem_append_right _ h)) (by decide +kernel))
set_option maxRecDepth 20000 in
theorem gX2_beastsOf_X2_needFable : GoodIn wsX2_beastsOf (wsV RX2 47 RX2 yX2_needFable wsX2_needFable) := goodIn_app (goodIn_of _ (by decide +kernel)) ggX2_beastsOf_X2_needFable
set_option maxRecDepth 20000 in
theorem ggX2_beastsOf_X2_size : GoodIn wsX2_beastsOf wsX2_size := goodIn_r _ [13, 14, 15, 16, 17, 18, 19, 20] (by decide +kernel) (by decide +kernel)
set_option maxRecDepth 20000 in
theorem gX2_beastsOf_X2_size : GoodIn wsX2_beastsOf (va_wsS RX2 70 yX2_size wsX2_size) := goodIn_app (goodIn_of _ (by decide +kernel)) ggX2_beastsOf_X2_size
theorem dX2_beastsOf_0 : decode cX2_beastsOf 0 = .ok (.aload_n 0, 1) := by decide +kernel
theorem dX2_beastsOf_1 : decode cX2_beastsOf 1 = .ok (.iload_n 1, 1) := by decide +kernel
theorem dX2_beastsOf_2 : decode cX2_beastsOf 2 = .ok (.invokevirtual 47, 3) := by decide +kernel
theorem dX2_beastsOf_5 : decode cX2_beastsOf 5 = .ok (.aload_n 0, 1) := by decide +kernel
theorem dX2_beastsOf_6 : decode cX2_beastsOf 6 = .ok (.getfield 10, 3) := by decide +kernel
theorem dX2_beastsOf_9 : decode cX2_beastsOf 9 = .ok (.getfield 50, 3) := by decide +kernel
theorem dX2_beastsOf_12 : decode cX2_beastsOf 12 = .ok (.iload_n 1, 1) := by decide +kernel
theorem dX2_beastsOf_13 : decode cX2_beastsOf 13 = .ok (.iaload, 1) := by decide +kernel
theorem dX2_beastsOf_14 : decode cX2_beastsOf 14 = .ok (.invokestatic 70, 3) := by decide +kernel
theorem dX2_beastsOf_17 : decode cX2_beastsOf 17 = .ok (.ireturn, 1) := by decide +kernel
set_option maxRecDepth 20000 in
theorem ggX2_hasBeast_X2_needFable : GoodIn wsX2_hasBeast wsX2_needFable := goodIn_ca (goodIn_r _ [7, 8, 9, 1, 10, 17, 18, 19, 20, 21, 22, 23, 24, 25, 26, 27] (by decide +kernel) (by decide +kernel)) (goodIn_sub (fun _ h => List.mem_cons_of_mem _ (List.mem_append_right _ h)) (by decide +kernel))
set_option maxRecDepth 20000 in
theorem gX2_hasBeast_X2_needFable : GoodIn wsX2_hasBeast (wsV RX2 47 RX2 yX2_needFable wsX2_needFable) := goodIn_app (goodIn_of _ (by decide +kernel)) ggX2_hasBeast_X2_needFable
set_option maxRecDepth 20000 in
theorem ggX2_hasBeast_X2_needBeast : GoodIn wsX2_hasBeast wsX2_needBeast := goodIn_ca (goodIn_r _ [13, 8, 9] (by decide +kernel) (by decide +kernel)) (goodIn_sub (fun _ h => List.mem_cons_of_mem _ (List.mem_append_right _ h)) (by decide +kernel))
set_option maxRecDepth 20000 in
theorem gX2_hasBeast_X2_needBeast : GoodIn wsX2_hasBeast (va_wsS RX2 34 yX2_needBeast wsX2_needBeast) := goodIn_app (goodIn_of _ (by decide +kernel)) ggX2_hasBeast_X2_needBeast
set_option maxRecDepth 20000 in
theorem ggX2_hasBeast_X2_has : GoodIn wsX2_hasBeast wsX2_has := goodIn_r _ [16] (by decide +kernel) (by decide +kernel)
set_option maxRecDepth 20000 in
theorem gX2_hasBeast_X2_has : GoodIn wsX2_hasBeast (va_wsS RX2 54 yX2_has wsX2_has) := goodIn_app (goodIn_of _ (by decide +kernel)) ggX2_hasBeast_X2_has
theorem dX2_hasBeast_0 : decode cX2_hasBeast 0 = .ok (.aload_n 0, 1) := by decide +kernel
theorem dX2_hasBeast_1 : decode cX2_hasBeast 1 = .ok (.iload_n 1, 1) := by decide +kernel
theorem dX2_hasBeast_2 : decode cX2_hasBeast 2 = .ok (.invokevirtual 47, 3) := by decide +kernel
theorem dX2_hasBeast_5 : decode cX2_hasBeast 5 = .ok (.iload_n 2, 1) := by decide +kernel
theorem dX2_hasBeast_6 : decode cX2_hasBeast 6 = .ok (.invokestatic 34, 3) := by decide +kernel
theorem dX2_hasBeast_9 : decode cX2_hasBeast 9 = .ok (.aload_n 0, 1) := by decide +kernel
theorem dX2_hasBeast_10 : decode cX2_hasBeast 10 = .ok (.getfield 10, 3) := by decide +kernel
theorem dX2_hasBeast_13 : decode cX2_hasBeast 13 = .ok (.getfield 50, 3) := by decide +kernel
theorem dX2_hasBeast_16 : decode cX2_hasBeast 16 = .ok (.iload_n 1, 1) := by decide +kernel
theorem dX2_hasBeast_17 : decode cX2_hasBeast 17 = .ok (.iaload, 1) := by decide +kernel
theorem dX2_hasBeast_18 : decode cX2_hasBeast 18 = .ok (.iload_n 2, 1) := by decide +kernel
theorem dX2_hasBeast_19 : decode cX2_hasBeast 19 = .ok (.invokestatic 54, 3) := by decide +kernel
theorem dX2_hasBeast_22 : decode cX2_hasBeast 22 = .ok (.ireturn, 1) := by decide +kernel
set_option maxRecDepth 20000 in
theorem ggX2_homeOf_X2_needFable : GoodIn wsX2_homeOf wsX2_needFable := goodIn_ca (goodIn_r _ [7, 8, 9, 1, 10, 11, 12, 13, 14, 15, 16, 17, 18, 19, 20, 21] (by decide +kernel) (by decide +kernel)) (goodIn_sub (fun _ h => List.mem_cons_of_mem _ (List.mem_append_right _ h)) (by decide +kernel))
set_option maxRecDepth 20000 in
theorem gX2_homeOf_X2_needFable : GoodIn wsX2_homeOf (wsV RX2 47 RX2 yX2_needFable wsX2_needFable) := goodIn_app (goodIn_of _ (by decide +kernel)) ggX2_homeOf_X2_needFable
theorem dX2_homeOf_0 : decode cX2_homeOf 0 = .ok (.aload_n 0, 1) := by decide +kernel
theorem dX2_homeOf_1 : decode cX2_homeOf 1 = .ok (.iload_n 1, 1) := by decide +kernel
theorem dX2_homeOf_2 : decode cX2_homeOf 2 = .ok (.invokevirtual 47, 3) := by decide +kernel
theorem dX2_homeOf_5 : decode cX2_homeOf 5 = .ok (.aload_n 0, 1) := by decide +kernel
theorem dX2_homeOf_6 : decode cX2_homeOf 6 = .ok (.getfield 10, 3) := by decide +kernel
theorem dX2_homeOf_9 : decode cX2_homeOf 9 = .ok (.getfield 130, 3) := by decide +kernel
theorem dX2_homeOf_12 : decode cX2_homeOf 12 = .ok (.iload_n 1, 1) := by decide +kernel
theorem dX2_homeOf_13 : decode cX2_homeOf 13 = .ok (.iaload, 1) := by decide +kernel
theorem dX2_homeOf_14 : decode cX2_homeOf 14 = .ok (.ireturn, 1) := by decide +kernel
set_option maxRecDepth 20000 in
theorem ggX2_parentOf_X2_needFable : GoodIn wsX2_parentOf wsX2_needFable := goodIn_ca (goodIn_r _ [7, 8, 9, 1, 10, 11, 12, 13, 14, 15, 16, 17, 18, 19, 20, 21] (by decide +kernel) (by decide +kernel)) (goodIn_sub (fun _ h => List.mem_cons_of_mem _ (List.mem_append_right _ h)) (by decide +kernel))
set_option maxRecDepth 20000 in
theorem gX2_parentOf_X2_needFable : GoodIn wsX2_parentOf (wsV RX2 47 RX2 yX2_needFable wsX2_needFable) := goodIn_app (goodIn_of _ (by decide +kernel)) ggX2_parentOf_X2_needFable
theorem dX2_parentOf_0 : decode cX2_parentOf 0 = .ok (.aload_n 0, 1) := by decide +kernel
theorem dX2_parentOf_1 : decode cX2_parentOf 1 = .ok (.iload_n 1, 1) := by decide +kernel
theorem dX2_parentOf_2 : decode cX2_parentOf 2 = .ok (.invokevirtual 47, 3) := by decide +kernel
theorem dX2_parentOf_5 : decode cX2_parentOf 5 = .ok (.aload_n 0, 1) := by decide +kernel
theorem dX2_parentOf_6 : decode cX2_parentOf 6 = .ok (.getfield 10, 3) := by decide +kernel
theorem dX2_parentOf_9 : decode cX2_parentOf 9 = .ok (.getfield 133, 3) := by decide +kernel
theorem dX2_parentOf_12 : decode cX2_parentOf 12 = .ok (.iload_n 1, 1) := by decide +kernel
theorem dX2_parentOf_13 : decode cX2_parentOf 13 = .ok (.iaload, 1) := by decide +kernel
theorem dX2_parentOf_14 : decode cX2_parentOf 14 = .ok (.ireturn, 1) := by decide +kernel
set_option maxRecDepth 20000 in
theorem ggX2_variantsOf_X2_needFable : GoodIn wsX2_variantsOf wsX2_needFable := goodIn_ca (goodIn_r _ [7, 8, 9, 1, 10, 21, 22, 23, 24, 25, 26, 27, 28, 29, 30, 31] (by decide +kernel) (by decide +kernel)) (goodIn_sub (fun _ h => List.mem_cons_of_mem _ (List.mem_append_right _ h)) (by decide +kernel))
set_option maxRecDepth 20000 in
theorem gX2_variantsOf_X2_needFable : GoodIn wsX2_variantsOf (wsV RX2 47 RX2 yX2_needFable wsX2_needFable) := goodIn_app (goodIn_of _ (by decide +kernel)) ggX2_variantsOf_X2_needFable
set_option maxRecDepth 20000 in
theorem ggX2_variantsOf_X2_size : GoodIn wsX2_variantsOf wsX2_size := goodIn_r _ [13, 14, 15, 16, 17, 18, 19, 20] (by decide +kernel) (by decide +kernel)
set_option maxRecDepth 20000 in
theorem gX2_variantsOf_X2_size : GoodIn wsX2_variantsOf (va_wsS RX2 70 yX2_size wsX2_size) := goodIn_app (goodIn_of _ (by decide +kernel)) ggX2_variantsOf_X2_size
theorem dX2_variantsOf_0 : decode cX2_variantsOf 0 = .ok (.aload_n 0, 1) := by decide +kernel
theorem dX2_variantsOf_1 : decode cX2_variantsOf 1 = .ok (.iload_n 1, 1) := by decide +kernel
theorem dX2_variantsOf_2 : decode cX2_variantsOf 2 = .ok (.invokevirtual 47, 3) := by decide +kernel
theorem dX2_variantsOf_5 : decode cX2_variantsOf 5 = .ok (.aload_n 0, 1) := by decide +kernel
theorem dX2_variantsOf_6 : decode cX2_variantsOf 6 = .ok (.getfield 10, 3) := by decide +kernel
theorem dX2_variantsOf_9 : decode cX2_variantsOf 9 = .ok (.getfield 65, 3) := by decide +kernel
theorem dX2_variantsOf_12 : decode cX2_variantsOf 12 = .ok (.iload_n 1, 1) := by decide +kernel
theorem dX2_variantsOf_13 : decode cX2_variantsOf 13 = .ok (.iaload, 1) := by decide +kernel
theorem dX2_variantsOf_14 : decode cX2_variantsOf 14 = .ok (.invokestatic 70, 3) := by decide +kernel
theorem dX2_variantsOf_17 : decode cX2_variantsOf 17 = .ok (.ireturn, 1) := by decide +kernel
set_option maxRecDepth 20000 in
theorem ggX2_valleysOf_X2_needFable : GoodIn wsX2_valleysOf wsX2_needFable := goodIn_ca (goodIn_r _ [6, 7, 8, 9, 10, 26, 27, 28, 29, 30, 31, 32, 33, 34, 35, 36] (by decide +kernel) (by decide +kernel)) (goodIn_sub (fun _ h => List.mem_cons_of_mem _ (List.mem_append_right _ h)) (by decide +kernel))
set_option maxRecDepth 20000 in
theorem gX2_valleysOf_X2_needFable : GoodIn wsX2_valleysOf (wsV RX2 47 RX2 yX2_needFable wsX2_needFable) := goodIn_app (goodIn_of _ (by decide +kernel)) ggX2_valleysOf_X2_needFable
set_option maxRecDepth 20000 in
theorem ggX2_valleysOf_X1_count : GoodIn wsX2_valleysOf wsX1_count := goodIn_r _ [15, 16, 17, 5, 18, 19, 20, 21, 22, 23, 24, 25, 37, 38, 39, 40, 41, 42, 43] (by decide +kernel) (by decide +kernel)
set_option maxRecDepth 20000 in
theorem gX2_valleysOf_X1_count : GoodIn wsX2_valleysOf (wsV RX2 114 RX1 yX1_count wsX1_count) := goodIn_app (goodIn_of _ (by decide +kernel)) ggX2_valleysOf_X1_count
theorem dX2_valleysOf_0 : decode cX2_valleysOf 0 = .ok (.aload_n 0, 1) := by decide +kernel
theorem dX2_valleysOf_1 : decode cX2_valleysOf 1 = .ok (.iload_n 1, 1) := by decide +kernel
theorem dX2_valleysOf_2 : decode cX2_valleysOf 2 = .ok (.invokevirtual 47, 3) := by decide +kernel
theorem dX2_valleysOf_5 : decode cX2_valleysOf 5 = .ok (.aload_n 0, 1) := by decide +kernel
theorem dX2_valleysOf_6 : decode cX2_valleysOf 6 = .ok (.getfield 19, 3) := by decide +kernel
theorem dX2_valleysOf_9 : decode cX2_valleysOf 9 = .ok (.iconst 1, 1) := by decide +kernel
theorem dX2_valleysOf_10 : decode cX2_valleysOf 10 = .ok (.iload_n 1, 1) := by decide +kernel
theorem dX2_valleysOf_11 : decode cX2_valleysOf 11 = .ok (.ishl, 1) := by decide +kernel
theorem dX2_valleysOf_12 : decode cX2_valleysOf 12 = .ok (.invokevirtual 114, 3) := by decide +kernel
theorem dX2_valleysOf_15 : decode cX2_valleysOf 15 = .ok (.ireturn, 1) := by decide +kernel
set_option maxRecDepth 20000 in
theorem ggX2_nearestAncestor_X2_needFable : GoodIn wsX2_nearestAncestor wsX2_needFable := goodIn_ca (goodIn_r _ [7, 8, 9, 1, 10, 17, 18, 19, 20, 21, 22, 23, 24, 25, 26, 27] (by decide +kernel) (by decide +kernel)) (goodIn_sub (fun _ h => List.mem_cons_of_mem _ (List.mem_append_right _ h)) (by decide +kernel))
set_option maxRecDepth 20000 in
theorem gX2_nearestAncestor_X2_needFable : GoodIn wsX2_nearestAncestor (wsV RX2 47 RX2 yX2_needFable wsX2_needFable) := goodIn_app (goodIn_of _ (by decide +kernel)) ggX2_nearestAncestor_X2_needFable
set_option maxRecDepth 20000 in
theorem ggX2_nearestAncestor_X2_greatest : GoodIn wsX2_nearestAncestor wsX2_greatest := goodIn_r _ [13, 14, 15, 6, 16] (by decide +kernel) (by decide +kernel)
set_option maxRecDepth 20000 in
theorem gX2_nearestAncestor_X2_greatest : GoodIn wsX2_nearestAncestor (va_wsS RX2 139 yX2_greatest wsX2_greatest) := goodIn_app (goodIn_of _ (by decide +kernel)) ggX2_nearestAncestor_X2_greatest
theorem dX2_nearestAncestor_0 : decode cX2_nearestAncestor 0 = .ok (.aload_n 0, 1) := by decide +kernel
theorem dX2_nearestAncestor_1 : decode cX2_nearestAncestor 1 = .ok (.iload_n 1, 1) := by decide +kernel
theorem dX2_nearestAncestor_2 : decode cX2_nearestAncestor 2 = .ok (.invokevirtual 47, 3) := by decide +kernel
theorem dX2_nearestAncestor_5 : decode cX2_nearestAncestor 5 = .ok (.aload_n 0, 1) := by decide +kernel
theorem dX2_nearestAncestor_6 : decode cX2_nearestAncestor 6 = .ok (.iload_n 2, 1) := by decide +kernel
theorem dX2_nearestAncestor_7 : decode cX2_nearestAncestor 7 = .ok (.invokevirtual 47, 3) := by decide +kernel
theorem dX2_nearestAncestor_10 : decode cX2_nearestAncestor 10 = .ok (.aload_n 0, 1) := by decide +kernel
theorem dX2_nearestAncestor_11 : decode cX2_nearestAncestor 11 = .ok (.getfield 10, 3) := by decide +kernel
theorem dX2_nearestAncestor_14 : decode cX2_nearestAncestor 14 = .ok (.getfield 136, 3) := by decide +kernel
theorem dX2_nearestAncestor_17 : decode cX2_nearestAncestor 17 = .ok (.iload_n 1, 1) := by decide +kernel
theorem dX2_nearestAncestor_18 : decode cX2_nearestAncestor 18 = .ok (.iaload, 1) := by decide +kernel
theorem dX2_nearestAncestor_19 : decode cX2_nearestAncestor 19 = .ok (.aload_n 0, 1) := by decide +kernel
theorem dX2_nearestAncestor_20 : decode cX2_nearestAncestor 20 = .ok (.getfield 10, 3) := by decide +kernel
theorem dX2_nearestAncestor_23 : decode cX2_nearestAncestor 23 = .ok (.getfield 136, 3) := by decide +kernel
theorem dX2_nearestAncestor_26 : decode cX2_nearestAncestor 26 = .ok (.iload_n 2, 1) := by decide +kernel
theorem dX2_nearestAncestor_27 : decode cX2_nearestAncestor 27 = .ok (.iaload, 1) := by decide +kernel
theorem dX2_nearestAncestor_28 : decode cX2_nearestAncestor 28 = .ok (.iand, 1) := by decide +kernel
theorem dX2_nearestAncestor_29 : decode cX2_nearestAncestor 29 = .ok (.invokestatic 139, 3) := by decide +kernel
theorem dX2_nearestAncestor_32 : decode cX2_nearestAncestor 32 = .ok (.ireturn, 1) := by decide +kernel
set_option maxRecDepth 20000 in
theorem ggX2_kinship_X2_needFable : GoodIn wsX2_kinship wsX2_needFable := goodIn_ca (goodIn_r _ [7, 8, 9, 1, 10, 21, 22, 23, 24, 25, 26, 27, 28, 29, 30, 31] (by decide +kernel) (by decide +kernel)) (goodIn_sub (fun _ h => List.mem_cons_of_mem _ (List.mem_append_right _ h)) (by decide +kernel))
set_option maxRecDepth 20000 in
theorem gX2_kinship_X2_needFable : GoodIn wsX2_kinship (wsV RX2 47 RX2 yX2_needFable wsX2_needFable) := goodIn_app (goodIn_of _ (by decide +kernel)) ggX2_kinship_X2_needFable
set_option maxRecDepth 20000 in
theorem ggX2_kinship_X2_size : GoodIn wsX2_kinship wsX2_size := goodIn_r _ [13, 14, 15, 16, 17, 18, 19, 20] (by decide +kernel) (by decide +kernel)
set_option maxRecDepth 20000 in
theorem gX2_kinship_X2_size : GoodIn wsX2_kinship (va_wsS RX2 70 yX2_size wsX2_size) := goodIn_app (goodIn_of _ (by decide +kernel)) ggX2_kinship_X2_size
theorem dX2_kinship_0 : decode cX2_kinship 0 = .ok (.aload_n 0, 1) := by decide +kernel
theorem dX2_kinship_1 : decode cX2_kinship 1 = .ok (.iload_n 1, 1) := by decide +kernel
theorem dX2_kinship_2 : decode cX2_kinship 2 = .ok (.invokevirtual 47, 3) := by decide +kernel
theorem dX2_kinship_5 : decode cX2_kinship 5 = .ok (.aload_n 0, 1) := by decide +kernel
theorem dX2_kinship_6 : decode cX2_kinship 6 = .ok (.iload_n 2, 1) := by decide +kernel
theorem dX2_kinship_7 : decode cX2_kinship 7 = .ok (.invokevirtual 47, 3) := by decide +kernel
theorem dX2_kinship_10 : decode cX2_kinship 10 = .ok (.aload_n 0, 1) := by decide +kernel
theorem dX2_kinship_11 : decode cX2_kinship 11 = .ok (.getfield 10, 3) := by decide +kernel
theorem dX2_kinship_14 : decode cX2_kinship 14 = .ok (.getfield 136, 3) := by decide +kernel
theorem dX2_kinship_17 : decode cX2_kinship 17 = .ok (.iload_n 1, 1) := by decide +kernel
theorem dX2_kinship_18 : decode cX2_kinship 18 = .ok (.iaload, 1) := by decide +kernel
theorem dX2_kinship_19 : decode cX2_kinship 19 = .ok (.aload_n 0, 1) := by decide +kernel
theorem dX2_kinship_20 : decode cX2_kinship 20 = .ok (.getfield 10, 3) := by decide +kernel
theorem dX2_kinship_23 : decode cX2_kinship 23 = .ok (.getfield 136, 3) := by decide +kernel
theorem dX2_kinship_26 : decode cX2_kinship 26 = .ok (.iload_n 2, 1) := by decide +kernel
theorem dX2_kinship_27 : decode cX2_kinship 27 = .ok (.iaload, 1) := by decide +kernel
theorem dX2_kinship_28 : decode cX2_kinship 28 = .ok (.iand, 1) := by decide +kernel
theorem dX2_kinship_29 : decode cX2_kinship 29 = .ok (.ifCond .ne 5, 3) := by decide +kernel
theorem dX2_kinship_32 : decode cX2_kinship 32 = .ok (.iconst (-1), 1) := by decide +kernel
theorem dX2_kinship_33 : decode cX2_kinship 33 = .ok (.ireturn, 1) := by decide +kernel
theorem dX2_kinship_34 : decode cX2_kinship 34 = .ok (.aload_n 0, 1) := by decide +kernel
theorem dX2_kinship_35 : decode cX2_kinship 35 = .ok (.getfield 10, 3) := by decide +kernel
theorem dX2_kinship_38 : decode cX2_kinship 38 = .ok (.getfield 136, 3) := by decide +kernel
theorem dX2_kinship_41 : decode cX2_kinship 41 = .ok (.iload_n 1, 1) := by decide +kernel
theorem dX2_kinship_42 : decode cX2_kinship 42 = .ok (.iaload, 1) := by decide +kernel
theorem dX2_kinship_43 : decode cX2_kinship 43 = .ok (.aload_n 0, 1) := by decide +kernel
theorem dX2_kinship_44 : decode cX2_kinship 44 = .ok (.getfield 10, 3) := by decide +kernel
theorem dX2_kinship_47 : decode cX2_kinship 47 = .ok (.getfield 136, 3) := by decide +kernel
theorem dX2_kinship_50 : decode cX2_kinship 50 = .ok (.iload_n 2, 1) := by decide +kernel
theorem dX2_kinship_51 : decode cX2_kinship 51 = .ok (.iaload, 1) := by decide +kernel
theorem dX2_kinship_52 : decode cX2_kinship 52 = .ok (.ixor, 1) := by decide +kernel
theorem dX2_kinship_53 : decode cX2_kinship 53 = .ok (.invokestatic 70, 3) := by decide +kernel
theorem dX2_kinship_56 : decode cX2_kinship 56 = .ok (.ireturn, 1) := by decide +kernel
set_option maxRecDepth 20000 in
theorem ggX2_sharedBeasts_X2_needFable : GoodIn wsX2_sharedBeasts wsX2_needFable := goodIn_ca (goodIn_r _ [7, 8, 9, 1, 10, 21, 22, 23, 24, 25, 26, 27, 28, 29, 30, 31] (by decide +kernel) (by decide +kernel)) (goodIn_sub (fun _ h => List.mem_cons_of_mem _ (List.mem_append_right _ h)) (by decide +kernel))
set_option maxRecDepth 20000 in
theorem gX2_sharedBeasts_X2_needFable : GoodIn wsX2_sharedBeasts (wsV RX2 47 RX2 yX2_needFable wsX2_needFable) := goodIn_app (goodIn_of _ (by decide +kernel)) ggX2_sharedBeasts_X2_needFable
set_option maxRecDepth 20000 in
theorem ggX2_sharedBeasts_X2_size : GoodIn wsX2_sharedBeasts wsX2_size := goodIn_r _ [13, 14, 15, 16, 17, 18, 19, 20] (by decide +kernel) (by decide +kernel)
set_option maxRecDepth 20000 in
theorem gX2_sharedBeasts_X2_size : GoodIn wsX2_sharedBeasts (va_wsS RX2 70 yX2_size wsX2_size) := goodIn_app (goodIn_of _ (by decide +kernel)) ggX2_sharedBeasts_X2_size
theorem dX2_sharedBeasts_0 : decode cX2_sharedBeasts 0 = .ok (.aload_n 0, 1) := by decide +kernel
theorem dX2_sharedBeasts_1 : decode cX2_sharedBeasts 1 = .ok (.iload_n 1, 1) := by decide +kernel
theorem dX2_sharedBeasts_2 : decode cX2_sharedBeasts 2 = .ok (.invokevirtual 47, 3) := by decide +kernel
theorem dX2_sharedBeasts_5 : decode cX2_sharedBeasts 5 = .ok (.aload_n 0, 1) := by decide +kernel
theorem dX2_sharedBeasts_6 : decode cX2_sharedBeasts 6 = .ok (.iload_n 2, 1) := by decide +kernel
theorem dX2_sharedBeasts_7 : decode cX2_sharedBeasts 7 = .ok (.invokevirtual 47, 3) := by decide +kernel
theorem dX2_sharedBeasts_10 : decode cX2_sharedBeasts 10 = .ok (.aload_n 0, 1) := by decide +kernel
theorem dX2_sharedBeasts_11 : decode cX2_sharedBeasts 11 = .ok (.getfield 10, 3) := by decide +kernel
theorem dX2_sharedBeasts_14 : decode cX2_sharedBeasts 14 = .ok (.getfield 50, 3) := by decide +kernel
theorem dX2_sharedBeasts_17 : decode cX2_sharedBeasts 17 = .ok (.iload_n 1, 1) := by decide +kernel
theorem dX2_sharedBeasts_18 : decode cX2_sharedBeasts 18 = .ok (.iaload, 1) := by decide +kernel
theorem dX2_sharedBeasts_19 : decode cX2_sharedBeasts 19 = .ok (.aload_n 0, 1) := by decide +kernel
theorem dX2_sharedBeasts_20 : decode cX2_sharedBeasts 20 = .ok (.getfield 10, 3) := by decide +kernel
theorem dX2_sharedBeasts_23 : decode cX2_sharedBeasts 23 = .ok (.getfield 50, 3) := by decide +kernel
theorem dX2_sharedBeasts_26 : decode cX2_sharedBeasts 26 = .ok (.iload_n 2, 1) := by decide +kernel
theorem dX2_sharedBeasts_27 : decode cX2_sharedBeasts 27 = .ok (.iaload, 1) := by decide +kernel
theorem dX2_sharedBeasts_28 : decode cX2_sharedBeasts 28 = .ok (.iand, 1) := by decide +kernel
theorem dX2_sharedBeasts_29 : decode cX2_sharedBeasts 29 = .ok (.invokestatic 70, 3) := by decide +kernel
theorem dX2_sharedBeasts_32 : decode cX2_sharedBeasts 32 = .ok (.ireturn, 1) := by decide +kernel
set_option maxRecDepth 20000 in
theorem ggX2_isOpen_X2_needValley : GoodIn wsX2_isOpen wsX2_needValley := goodIn_ca (goodIn_r _ [6, 7, 8] (by decide +kernel) (by decide +kernel)) (goodIn_sub (fun _ h => List.mem_cons_of_mem _ (List.mem_append_right _ h)) (by decide +kernel))
set_option maxRecDepth 20000 in
theorem gX2_isOpen_X2_needValley : GoodIn wsX2_isOpen (va_wsS RX2 37 yX2_needValley wsX2_needValley) := goodIn_app (goodIn_of _ (by decide +kernel)) ggX2_isOpen_X2_needValley
set_option maxRecDepth 20000 in
theorem ggX2_isOpen_X2_has : GoodIn wsX2_isOpen wsX2_has := goodIn_r _ [11] (by decide +kernel) (by decide +kernel)
set_option maxRecDepth 20000 in
theorem gX2_isOpen_X2_has : GoodIn wsX2_isOpen (va_wsS RX2 54 yX2_has wsX2_has) := goodIn_app (goodIn_of _ (by decide +kernel)) ggX2_isOpen_X2_has
theorem dX2_isOpen_0 : decode cX2_isOpen 0 = .ok (.iload_n 1, 1) := by decide +kernel
theorem dX2_isOpen_1 : decode cX2_isOpen 1 = .ok (.invokestatic 37, 3) := by decide +kernel
theorem dX2_isOpen_4 : decode cX2_isOpen 4 = .ok (.iload_n 2, 1) := by decide +kernel
theorem dX2_isOpen_5 : decode cX2_isOpen 5 = .ok (.invokestatic 37, 3) := by decide +kernel
theorem dX2_isOpen_8 : decode cX2_isOpen 8 = .ok (.aload_n 0, 1) := by decide +kernel
theorem dX2_isOpen_9 : decode cX2_isOpen 9 = .ok (.getfield 19, 3) := by decide +kernel
theorem dX2_isOpen_12 : decode cX2_isOpen 12 = .ok (.getfield 94, 3) := by decide +kernel
theorem dX2_isOpen_15 : decode cX2_isOpen 15 = .ok (.iload_n 1, 1) := by decide +kernel
theorem dX2_isOpen_16 : decode cX2_isOpen 16 = .ok (.iaload, 1) := by decide +kernel
theorem dX2_isOpen_17 : decode cX2_isOpen 17 = .ok (.iload_n 2, 1) := by decide +kernel
theorem dX2_isOpen_18 : decode cX2_isOpen 18 = .ok (.invokestatic 54, 3) := by decide +kernel
theorem dX2_isOpen_21 : decode cX2_isOpen 21 = .ok (.ireturn, 1) := by decide +kernel
set_option maxRecDepth 20000 in
theorem ggX2_isBanned_X2_needFable : GoodIn wsX2_isBanned wsX2_needFable := goodIn_ca (goodIn_r _ [7, 8, 9, 2, 10, 25, 26, 27, 28, 29, 30, 31, 32, 33, 34, 35] (by decide +kernel) (by decide +kernel)) (goodIn_sub (fun _ h => List.mem_cons_of_mem _ (List.mem_append_right _ h)) (by decide +kernel))
set_option maxRecDepth 20000 in
theorem gX2_isBanned_X2_needFable : GoodIn wsX2_isBanned (wsV RX2 47 RX2 yX2_needFable wsX2_needFable) := goodIn_app (goodIn_of _ (by decide +kernel)) ggX2_isBanned_X2_needFable
set_option maxRecDepth 20000 in
theorem ggX2_isBanned_X2_needValley : GoodIn wsX2_isBanned wsX2_needValley := goodIn_ca (goodIn_r _ [13, 8, 9] (by decide +kernel) (by decide +kernel)) (goodIn_sub (fun _ h => List.mem_cons_of_mem _ (List.mem_append_right _ h)) (by decide +kernel))
set_option maxRecDepth 20000 in
theorem gX2_isBanned_X2_needValley : GoodIn wsX2_isBanned (va_wsS RX2 37 yX2_needValley wsX2_needValley) := goodIn_app (goodIn_of _ (by decide +kernel)) ggX2_isBanned_X2_needValley
set_option maxRecDepth 20000 in
theorem ggX2_isBanned_X1_bans : GoodIn wsX2_isBanned wsX1_bans := goodIn_r _ [18, 19, 20, 21, 22, 23, 6, 24, 36, 37, 38, 39, 40, 41, 42, 29, 30, 31, 32, 33, 34, 35] (by decide +kernel) (by decide +kernel)
set_option maxRecDepth 20000 in
theorem gX2_isBanned_X1_bans : GoodIn wsX2_isBanned (wsV RX2 108 RX1 yX1_bans wsX1_bans) := goodIn_app (goodIn_of _ (by decide +kernel)) ggX2_isBanned_X1_bans
theorem dX2_isBanned_0 : decode cX2_isBanned 0 = .ok (.aload_n 0, 1) := by decide +kernel
theorem dX2_isBanned_1 : decode cX2_isBanned 1 = .ok (.iload_n 1, 1) := by decide +kernel
theorem dX2_isBanned_2 : decode cX2_isBanned 2 = .ok (.invokevirtual 47, 3) := by decide +kernel
theorem dX2_isBanned_5 : decode cX2_isBanned 5 = .ok (.iload_n 2, 1) := by decide +kernel
theorem dX2_isBanned_6 : decode cX2_isBanned 6 = .ok (.invokestatic 37, 3) := by decide +kernel
theorem dX2_isBanned_9 : decode cX2_isBanned 9 = .ok (.aload_n 0, 1) := by decide +kernel
theorem dX2_isBanned_10 : decode cX2_isBanned 10 = .ok (.getfield 19, 3) := by decide +kernel
theorem dX2_isBanned_13 : decode cX2_isBanned 13 = .ok (.aload_n 0, 1) := by decide +kernel
theorem dX2_isBanned_14 : decode cX2_isBanned 14 = .ok (.getfield 10, 3) := by decide +kernel
theorem dX2_isBanned_17 : decode cX2_isBanned 17 = .ok (.iload_n 1, 1) := by decide +kernel
theorem dX2_isBanned_18 : decode cX2_isBanned 18 = .ok (.iload_n 2, 1) := by decide +kernel
theorem dX2_isBanned_19 : decode cX2_isBanned 19 = .ok (.invokevirtual 108, 3) := by decide +kernel
theorem dX2_isBanned_22 : decode cX2_isBanned 22 = .ok (.ireturn, 1) := by decide +kernel
set_option maxRecDepth 20000 in
theorem ggX2_isTold_X2_needFable : GoodIn wsX2_isTold wsX2_needFable := goodIn_ca (goodIn_r _ [7, 8, 9, 10, 11, 18, 19, 20, 21, 29, 30, 31, 32, 33, 34, 35] (by decide +kernel) (by decide +kernel)) (goodIn_sub (fun _ h => List.mem_cons_of_mem _ (List.mem_append_right _ h)) (by decide +kernel))
set_option maxRecDepth 20000 in
theorem gX2_isTold_X2_needFable : GoodIn wsX2_isTold (wsV RX2 47 RX2 yX2_needFable wsX2_needFable) := goodIn_app (goodIn_of _ (by decide +kernel)) ggX2_isTold_X2_needFable
set_option maxRecDepth 20000 in
theorem ggX2_isTold_X2_needValley : GoodIn wsX2_isTold wsX2_needValley := goodIn_ca (goodIn_r _ [14, 8, 9] (by decide +kernel) (by decide +kernel)) (goodIn_sub (fun _ h => List.mem_cons_of_mem _ (List.mem_append_right _ h)) (by decide +kernel))
set_option maxRecDepth 20000 in
theorem gX2_isTold_X2_needValley : GoodIn wsX2_isTold (va_wsS RX2 37 yX2_needValley wsX2_needValley) := goodIn_app (goodIn_of _ (by decide +kernel)) ggX2_isTold_X2_needValley
set_option maxRecDepth 20000 in
theorem ggX2_isTold_X2_has : GoodIn wsX2_isTold wsX2_has := goodIn_r _ [17] (by decide +kernel) (by decide +kernel)
set_option maxRecDepth 20000 in
theorem gX2_isTold_X2_has : GoodIn wsX2_isTold (va_wsS RX2 54 yX2_has wsX2_has) := goodIn_app (goodIn_of _ (by decide +kernel)) ggX2_isTold_X2_has
theorem dX2_isTold_0 : decode cX2_isTold 0 = .ok (.aload_n 0, 1) := by decide +kernel
theorem dX2_isTold_1 : decode cX2_isTold 1 = .ok (.iload_n 1, 1) := by decide +kernel
theorem dX2_isTold_2 : decode cX2_isTold 2 = .ok (.invokevirtual 47, 3) := by decide +kernel
theorem dX2_isTold_5 : decode cX2_isTold 5 = .ok (.iload_n 2, 1) := by decide +kernel
theorem dX2_isTold_6 : decode cX2_isTold 6 = .ok (.invokestatic 37, 3) := by decide +kernel
theorem dX2_isTold_9 : decode cX2_isTold 9 = .ok (.aload_n 0, 1) := by decide +kernel
theorem dX2_isTold_10 : decode cX2_isTold 10 = .ok (.getfield 19, 3) := by decide +kernel
theorem dX2_isTold_13 : decode cX2_isTold 13 = .ok (.getfield 103, 3) := by decide +kernel
theorem dX2_isTold_16 : decode cX2_isTold 16 = .ok (.iload_n 2, 1) := by decide +kernel
theorem dX2_isTold_17 : decode cX2_isTold 17 = .ok (.iaload, 1) := by decide +kernel
theorem dX2_isTold_18 : decode cX2_isTold 18 = .ok (.iload_n 1, 1) := by decide +kernel
theorem dX2_isTold_19 : decode cX2_isTold 19 = .ok (.invokestatic 54, 3) := by decide +kernel
theorem dX2_isTold_22 : decode cX2_isTold 22 = .ok (.ireturn, 1) := by decide +kernel
set_option maxRecDepth 20000 in
theorem ggX2_toldIn_X2_needValley : GoodIn wsX2_toldIn wsX2_needValley := goodIn_ca (goodIn_r _ [6, 7, 8] (by decide +kernel) (by decide +kernel)) (goodIn_sub (fun _ h => List.mem_cons_of_mem _ (List.mem_append_right _ h)) (by decide +kernel))
set_option maxRecDepth 20000 in
theorem gX2_toldIn_X2_needValley : GoodIn wsX2_toldIn (va_wsS RX2 37 yX2_needValley wsX2_needValley) := goodIn_app (goodIn_of _ (by decide +kernel)) ggX2_toldIn_X2_needValley
set_option maxRecDepth 20000 in
theorem ggX2_toldIn_X2_size : GoodIn wsX2_toldIn wsX2_size := goodIn_r _ [11, 12, 13, 14, 15, 16, 17, 18] (by decide +kernel) (by decide +kernel)
set_option maxRecDepth 20000 in
theorem gX2_toldIn_X2_size : GoodIn wsX2_toldIn (va_wsS RX2 70 yX2_size wsX2_size) := goodIn_app (goodIn_of _ (by decide +kernel)) ggX2_toldIn_X2_size
theorem dX2_toldIn_0 : decode cX2_toldIn 0 = .ok (.iload_n 1, 1) := by decide +kernel
theorem dX2_toldIn_1 : decode cX2_toldIn 1 = .ok (.invokestatic 37, 3) := by decide +kernel
theorem dX2_toldIn_4 : decode cX2_toldIn 4 = .ok (.aload_n 0, 1) := by decide +kernel
theorem dX2_toldIn_5 : decode cX2_toldIn 5 = .ok (.getfield 19, 3) := by decide +kernel
theorem dX2_toldIn_8 : decode cX2_toldIn 8 = .ok (.getfield 103, 3) := by decide +kernel
theorem dX2_toldIn_11 : decode cX2_toldIn 11 = .ok (.iload_n 1, 1) := by decide +kernel
theorem dX2_toldIn_12 : decode cX2_toldIn 12 = .ok (.iaload, 1) := by decide +kernel
theorem dX2_toldIn_13 : decode cX2_toldIn 13 = .ok (.invokestatic 70, 3) := by decide +kernel
theorem dX2_toldIn_16 : decode cX2_toldIn 16 = .ok (.ireturn, 1) := by decide +kernel
set_option maxRecDepth 20000 in
theorem ggX2_allowedIn_X2_needValley : GoodIn wsX2_allowedIn wsX2_needValley := goodIn_ca (goodIn_r _ [6, 7, 8] (by decide +kernel) (by decide +kernel)) (goodIn_sub (fun _ h => List.mem_cons_of_mem _ (List.mem_append_right _ h)) (by decide +kernel))
set_option maxRecDepth 20000 in
theorem gX2_allowedIn_X2_needValley : GoodIn wsX2_allowedIn (va_wsS RX2 37 yX2_needValley wsX2_needValley) := goodIn_app (goodIn_of _ (by decide +kernel)) ggX2_allowedIn_X2_needValley
set_option maxRecDepth 20000 in
theorem ggX2_allowedIn_X1_welcome : GoodIn wsX2_allowedIn wsX1_welcome := goodIn_r _ [13, 14, 15, 16, 17, 12, 18, 19, 20, 21, 22, 23, 5, 24, 39, 40, 41, 42, 43, 44, 45, 46, 47, 48, 49, 50, 51, 52] (by decide +kernel) (by decide +kernel)
set_option maxRecDepth 20000 in
theorem gX2_allowedIn_X1_welcome : GoodIn wsX2_allowedIn (wsV RX2 142 RX1 yX1_welcome wsX1_welcome) := goodIn_app (goodIn_of _ (by decide +kernel)) ggX2_allowedIn_X1_welcome
set_option maxRecDepth 20000 in
theorem ggX2_allowedIn_X2_size : GoodIn wsX2_allowedIn wsX2_size := goodIn_r _ [27, 28, 29, 30, 31, 32, 33, 34] (by decide +kernel) (by decide +kernel)
set_option maxRecDepth 20000 in
theorem gX2_allowedIn_X2_size : GoodIn wsX2_allowedIn (va_wsS RX2 70 yX2_size wsX2_size) := goodIn_app (goodIn_of _ (by decide +kernel)) ggX2_allowedIn_X2_size
theorem dX2_allowedIn_0 : decode cX2_allowedIn 0 = .ok (.iload_n 1, 1) := by decide +kernel
theorem dX2_allowedIn_1 : decode cX2_allowedIn 1 = .ok (.invokestatic 37, 3) := by decide +kernel
theorem dX2_allowedIn_4 : decode cX2_allowedIn 4 = .ok (.aload_n 0, 1) := by decide +kernel
theorem dX2_allowedIn_5 : decode cX2_allowedIn 5 = .ok (.getfield 19, 3) := by decide +kernel
theorem dX2_allowedIn_8 : decode cX2_allowedIn 8 = .ok (.aload_n 0, 1) := by decide +kernel
theorem dX2_allowedIn_9 : decode cX2_allowedIn 9 = .ok (.getfield 10, 3) := by decide +kernel
theorem dX2_allowedIn_12 : decode cX2_allowedIn 12 = .ok (.iload_n 1, 1) := by decide +kernel
theorem dX2_allowedIn_13 : decode cX2_allowedIn 13 = .ok (.invokevirtual 142, 3) := by decide +kernel
theorem dX2_allowedIn_16 : decode cX2_allowedIn 16 = .ok (.invokestatic 70, 3) := by decide +kernel
theorem dX2_allowedIn_19 : decode cX2_allowedIn 19 = .ok (.ireturn, 1) := by decide +kernel
set_option maxRecDepth 20000 in
theorem ggX2_bansOf_X2_needValley : GoodIn wsX2_bansOf wsX2_needValley := goodIn_ca (goodIn_r _ [7, 8, 9] (by decide +kernel) (by decide +kernel)) (goodIn_sub (fun _ h => List.mem_cons_of_mem _ (List.mem_append_right _ h)) (by decide +kernel))
set_option maxRecDepth 20000 in
theorem gX2_bansOf_X2_needValley : GoodIn wsX2_bansOf (va_wsS RX2 37 yX2_needValley wsX2_needValley) := goodIn_app (goodIn_of _ (by decide +kernel)) ggX2_bansOf_X2_needValley
set_option maxRecDepth 20000 in
theorem ggX2_bansOf_X2_size : GoodIn wsX2_bansOf wsX2_size := goodIn_r _ [12, 13, 14, 15, 16, 17, 18, 19] (by decide +kernel) (by decide +kernel)
set_option maxRecDepth 20000 in
theorem gX2_bansOf_X2_size : GoodIn wsX2_bansOf (va_wsS RX2 70 yX2_size wsX2_size) := goodIn_app (goodIn_of _ (by decide +kernel)) ggX2_bansOf_X2_size
theorem dX2_bansOf_0 : decode cX2_bansOf 0 = .ok (.iload_n 1, 1) := by decide +kernel
theorem dX2_bansOf_1 : decode cX2_bansOf 1 = .ok (.invokestatic 37, 3) := by decide +kernel
theorem dX2_bansOf_4 : decode cX2_bansOf 4 = .ok (.aload_n 0, 1) := by decide +kernel
theorem dX2_bansOf_5 : decode cX2_bansOf 5 = .ok (.getfield 19, 3) := by decide +kernel
theorem dX2_bansOf_8 : decode cX2_bansOf 8 = .ok (.getfield 97, 3) := by decide +kernel
theorem dX2_bansOf_11 : decode cX2_bansOf 11 = .ok (.iload_n 1, 1) := by decide +kernel
theorem dX2_bansOf_12 : decode cX2_bansOf 12 = .ok (.iaload, 1) := by decide +kernel
theorem dX2_bansOf_13 : decode cX2_bansOf 13 = .ok (.invokestatic 70, 3) := by decide +kernel
theorem dX2_bansOf_16 : decode cX2_bansOf 16 = .ok (.aload_n 0, 1) := by decide +kernel
theorem dX2_bansOf_17 : decode cX2_bansOf 17 = .ok (.getfield 19, 3) := by decide +kernel
theorem dX2_bansOf_20 : decode cX2_bansOf 20 = .ok (.getfield 100, 3) := by decide +kernel
theorem dX2_bansOf_23 : decode cX2_bansOf 23 = .ok (.iload_n 1, 1) := by decide +kernel
theorem dX2_bansOf_24 : decode cX2_bansOf 24 = .ok (.iaload, 1) := by decide +kernel
theorem dX2_bansOf_25 : decode cX2_bansOf 25 = .ok (.invokestatic 70, 3) := by decide +kernel
theorem dX2_bansOf_28 : decode cX2_bansOf 28 = .ok (.iadd, 1) := by decide +kernel
theorem dX2_bansOf_29 : decode cX2_bansOf 29 = .ok (.ireturn, 1) := by decide +kernel
theorem dX2_fables_0 : decode cX2_fables 0 = .ok (.aload_n 0, 1) := by decide +kernel
theorem dX2_fables_1 : decode cX2_fables 1 = .ok (.getfield 10, 3) := by decide +kernel
theorem dX2_fables_4 : decode cX2_fables 4 = .ok (.getfield 146, 3) := by decide +kernel
theorem dX2_fables_7 : decode cX2_fables 7 = .ok (.ireturn, 1) := by decide +kernel
theorem dX2_season_0 : decode cX2_season 0 = .ok (.aload_n 0, 1) := by decide +kernel
theorem dX2_season_1 : decode cX2_season 1 = .ok (.getfield 26, 3) := by decide +kernel
theorem dX2_season_4 : decode cX2_season 4 = .ok (.ireturn, 1) := by decide +kernel
set_option maxRecDepth 20000 in
theorem ggX2_tellings_X0_all : GoodIn wsX2_tellings wsX0_all := goodIn_r _ [7, 8, 29, 30, 31, 32, 33, 34, 35] (by decide +kernel) (by decide +kernel)
set_option maxRecDepth 20000 in
theorem gX2_tellings_X0_all : GoodIn wsX2_tellings (wsV RX2 126 RX0 yX0_all wsX0_all) := goodIn_app (goodIn_of _ (by decide +kernel)) ggX2_tellings_X0_all
set_option maxRecDepth 20000 in
theorem ggX2_tellings_X1_count : GoodIn wsX2_tellings wsX1_count := goodIn_r _ [13, 14, 15, 16, 17, 18, 19, 20, 21, 22, 23, 24, 36, 37, 38, 39, 40, 41, 42] (by decide +kernel) (by decide +kernel)
set_option maxRecDepth 20000 in
theorem gX2_tellings_X1_count : GoodIn wsX2_tellings (wsV RX2 114 RX1 yX1_count wsX1_count) := goodIn_app (goodIn_of _ (by decide +kernel)) ggX2_tellings_X1_count
theorem dX2_tellings_0 : decode cX2_tellings 0 = .ok (.aload_n 0, 1) := by decide +kernel
theorem dX2_tellings_1 : decode cX2_tellings 1 = .ok (.getfield 19, 3) := by decide +kernel
theorem dX2_tellings_4 : decode cX2_tellings 4 = .ok (.aload_n 0, 1) := by decide +kernel
theorem dX2_tellings_5 : decode cX2_tellings 5 = .ok (.getfield 10, 3) := by decide +kernel
theorem dX2_tellings_8 : decode cX2_tellings 8 = .ok (.invokevirtual 126, 3) := by decide +kernel
theorem dX2_tellings_11 : decode cX2_tellings 11 = .ok (.invokevirtual 114, 3) := by decide +kernel
theorem dX2_tellings_14 : decode cX2_tellings 14 = .ok (.ireturn, 1) := by decide +kernel
theorem dX2_silenced_0 : decode cX2_silenced 0 = .ok (.aload_n 0, 1) := by decide +kernel
theorem dX2_silenced_1 : decode cX2_silenced 1 = .ok (.getfield 19, 3) := by decide +kernel
theorem dX2_silenced_4 : decode cX2_silenced 4 = .ok (.getfield 148, 3) := by decide +kernel
theorem dX2_silenced_7 : decode cX2_silenced 7 = .ok (.ireturn, 1) := by decide +kernel
set_option maxRecDepth 20000 in
theorem ggX2_fablesWithMoral_X2_needMoral : GoodIn wsX2_fablesWithMoral wsX2_needMoral := goodIn_ca (goodIn_r _ [5, 6, 7] (by decide +kernel) (by decide +kernel)) (goodIn_sub (fun _ h => List.mem_cons_of_mem _ (List.mem_append_right _ h)) (by decide +kernel))
set_option maxRecDepth 20000 in
theorem gX2_fablesWithMoral_X2_needMoral : GoodIn wsX2_fablesWithMoral (va_wsS RX2 30 yX2_needMoral wsX2_needMoral) := goodIn_app (goodIn_of _ (by decide +kernel)) ggX2_fablesWithMoral_X2_needMoral
set_option maxRecDepth 20000 in
theorem ggX2_fablesWithMoral_X0_withMoral : GoodIn wsX2_fablesWithMoral wsX0_withMoral := goodIn_r _ [12, 13, 14, 29, 30, 31, 32, 33, 34, 35] (by decide +kernel) (by decide +kernel)
set_option maxRecDepth 20000 in
theorem gX2_fablesWithMoral_X0_withMoral : GoodIn wsX2_fablesWithMoral (wsV RX2 151 RX0 yX0_withMoral wsX0_withMoral) := goodIn_app (goodIn_of _ (by decide +kernel)) ggX2_fablesWithMoral_X0_withMoral
set_option maxRecDepth 20000 in
theorem ggX2_fablesWithMoral_X2_size : GoodIn wsX2_fablesWithMoral wsX2_size := goodIn_r _ [17, 18, 19, 20, 21, 22, 23, 24] (by decide +kernel) (by decide +kernel)
set_option maxRecDepth 20000 in
theorem gX2_fablesWithMoral_X2_size : GoodIn wsX2_fablesWithMoral (va_wsS RX2 70 yX2_size wsX2_size) := goodIn_app (goodIn_of _ (by decide +kernel)) ggX2_fablesWithMoral_X2_size
theorem dX2_fablesWithMoral_0 : decode cX2_fablesWithMoral 0 = .ok (.iload_n 1, 1) := by decide +kernel
theorem dX2_fablesWithMoral_1 : decode cX2_fablesWithMoral 1 = .ok (.invokestatic 30, 3) := by decide +kernel
theorem dX2_fablesWithMoral_4 : decode cX2_fablesWithMoral 4 = .ok (.aload_n 0, 1) := by decide +kernel
theorem dX2_fablesWithMoral_5 : decode cX2_fablesWithMoral 5 = .ok (.getfield 10, 3) := by decide +kernel
theorem dX2_fablesWithMoral_8 : decode cX2_fablesWithMoral 8 = .ok (.iload_n 1, 1) := by decide +kernel
theorem dX2_fablesWithMoral_9 : decode cX2_fablesWithMoral 9 = .ok (.invokevirtual 151, 3) := by decide +kernel
theorem dX2_fablesWithMoral_12 : decode cX2_fablesWithMoral 12 = .ok (.invokestatic 70, 3) := by decide +kernel
theorem dX2_fablesWithMoral_15 : decode cX2_fablesWithMoral 15 = .ok (.ireturn, 1) := by decide +kernel
set_option maxRecDepth 20000 in
theorem ggX2_fablesWithBeast_X2_needBeast : GoodIn wsX2_fablesWithBeast wsX2_needBeast := goodIn_ca (goodIn_r _ [5, 6, 7] (by decide +kernel) (by decide +kernel)) (goodIn_sub (fun _ h => List.mem_cons_of_mem _ (List.mem_append_right _ h)) (by decide +kernel))
set_option maxRecDepth 20000 in
theorem gX2_fablesWithBeast_X2_needBeast : GoodIn wsX2_fablesWithBeast (va_wsS RX2 34 yX2_needBeast wsX2_needBeast) := goodIn_app (goodIn_of _ (by decide +kernel)) ggX2_fablesWithBeast_X2_needBeast
set_option maxRecDepth 20000 in
theorem ggX2_fablesWithBeast_X0_withBeast : GoodIn wsX2_fablesWithBeast wsX0_withBeast := goodIn_r _ [12, 13, 14, 15, 4, 16, 31, 32, 33, 34, 35, 36, 37] (by decide +kernel) (by decide +kernel)
set_option maxRecDepth 20000 in
theorem gX2_fablesWithBeast_X0_withBeast : GoodIn wsX2_fablesWithBeast (wsV RX2 154 RX0 yX0_withBeast wsX0_withBeast) := goodIn_app (goodIn_of _ (by decide +kernel)) ggX2_fablesWithBeast_X0_withBeast
set_option maxRecDepth 20000 in
theorem ggX2_fablesWithBeast_X2_size : GoodIn wsX2_fablesWithBeast wsX2_size := goodIn_r _ [19, 20, 21, 22, 23, 24, 25, 26] (by decide +kernel) (by decide +kernel)
set_option maxRecDepth 20000 in
theorem gX2_fablesWithBeast_X2_size : GoodIn wsX2_fablesWithBeast (va_wsS RX2 70 yX2_size wsX2_size) := goodIn_app (goodIn_of _ (by decide +kernel)) ggX2_fablesWithBeast_X2_size
theorem dX2_fablesWithBeast_0 : decode cX2_fablesWithBeast 0 = .ok (.iload_n 1, 1) := by decide +kernel
theorem dX2_fablesWithBeast_1 : decode cX2_fablesWithBeast 1 = .ok (.invokestatic 34, 3) := by decide +kernel
theorem dX2_fablesWithBeast_4 : decode cX2_fablesWithBeast 4 = .ok (.aload_n 0, 1) := by decide +kernel
theorem dX2_fablesWithBeast_5 : decode cX2_fablesWithBeast 5 = .ok (.getfield 10, 3) := by decide +kernel
theorem dX2_fablesWithBeast_8 : decode cX2_fablesWithBeast 8 = .ok (.iload_n 1, 1) := by decide +kernel
theorem dX2_fablesWithBeast_9 : decode cX2_fablesWithBeast 9 = .ok (.invokevirtual 154, 3) := by decide +kernel
theorem dX2_fablesWithBeast_12 : decode cX2_fablesWithBeast 12 = .ok (.invokestatic 70, 3) := by decide +kernel
theorem dX2_fablesWithBeast_15 : decode cX2_fablesWithBeast 15 = .ok (.ireturn, 1) := by decide +kernel
set_option maxRecDepth 20000 in
theorem ggX2_favouriteMoral_X0_withMoral : GoodIn wsX2_favouriteMoral wsX0_withMoral := goodIn_r _ [7, 8, 9, 30, 31, 32, 33, 34, 35, 36] (by decide +kernel) (by decide +kernel)
set_option maxRecDepth 20000 in
theorem gX2_favouriteMoral_X0_withMoral : GoodIn wsX2_favouriteMoral (wsV RX2 151 RX0 yX0_withMoral wsX0_withMoral) := goodIn_app (goodIn_of _ (by decide +kernel)) ggX2_favouriteMoral_X0_withMoral
set_option maxRecDepth 20000 in
theorem ggX2_favouriteMoral_X1_count : GoodIn wsX2_favouriteMoral wsX1_count := goodIn_r _ [14, 15, 16, 17, 18, 19, 20, 21, 22, 23, 24, 25, 37, 38, 39, 40, 41, 42, 43] (by decide +kernel) (by decide +kernel)
set_option maxRecDepth 20000 in
theorem gX2_favouriteMoral_X1_count : GoodIn wsX2_favouriteMoral (wsV RX2 114 RX1 yX1_count wsX1_count) := goodIn_app (goodIn_of _ (by decide +kernel)) ggX2_favouriteMoral_X1_count
theorem dX2_favouriteMoral_0 : decode cX2_favouriteMoral 0 = .ok (.iconst (-1), 1) := by decide +kernel
theorem dX2_favouriteMoral_1 : decode cX2_favouriteMoral 1 = .ok (.istore_n 1, 1) := by decide +kernel
theorem dX2_favouriteMoral_2 : decode cX2_favouriteMoral 2 = .ok (.iconst 0, 1) := by decide +kernel
theorem dX2_favouriteMoral_3 : decode cX2_favouriteMoral 3 = .ok (.istore_n 2, 1) := by decide +kernel
theorem dX2_favouriteMoral_4 : decode cX2_favouriteMoral 4 = .ok (.iconst 0, 1) := by decide +kernel
theorem dX2_favouriteMoral_5 : decode cX2_favouriteMoral 5 = .ok (.istore_n 3, 1) := by decide +kernel
theorem dX2_favouriteMoral_6 : decode cX2_favouriteMoral 6 = .ok (.iload_n 3, 1) := by decide +kernel
theorem dX2_favouriteMoral_7 : decode cX2_favouriteMoral 7 = .ok (.bipush 10, 2) := by decide +kernel
theorem dX2_favouriteMoral_9 : decode cX2_favouriteMoral 9 = .ok (.if_icmp .ge 37, 3) := by decide +kernel
theorem dX2_favouriteMoral_12 : decode cX2_favouriteMoral 12 = .ok (.aload_n 0, 1) := by decide +kernel
theorem dX2_favouriteMoral_13 : decode cX2_favouriteMoral 13 = .ok (.getfield 19, 3) := by decide +kernel
theorem dX2_favouriteMoral_16 : decode cX2_favouriteMoral 16 = .ok (.aload_n 0, 1) := by decide +kernel
theorem dX2_favouriteMoral_17 : decode cX2_favouriteMoral 17 = .ok (.getfield 10, 3) := by decide +kernel
theorem dX2_favouriteMoral_20 : decode cX2_favouriteMoral 20 = .ok (.iload_n 3, 1) := by decide +kernel
theorem dX2_favouriteMoral_21 : decode cX2_favouriteMoral 21 = .ok (.invokevirtual 151, 3) := by decide +kernel
theorem dX2_favouriteMoral_24 : decode cX2_favouriteMoral 24 = .ok (.invokevirtual 114, 3) := by decide +kernel
theorem dX2_favouriteMoral_27 : decode cX2_favouriteMoral 27 = .ok (.istore 4, 2) := by decide +kernel
theorem dX2_favouriteMoral_29 : decode cX2_favouriteMoral 29 = .ok (.iload 4, 2) := by decide +kernel
theorem dX2_favouriteMoral_31 : decode cX2_favouriteMoral 31 = .ok (.iload_n 2, 1) := by decide +kernel
theorem dX2_favouriteMoral_32 : decode cX2_favouriteMoral 32 = .ok (.if_icmp .le 8, 3) := by decide +kernel
theorem dX2_favouriteMoral_35 : decode cX2_favouriteMoral 35 = .ok (.iload 4, 2) := by decide +kernel
theorem dX2_favouriteMoral_37 : decode cX2_favouriteMoral 37 = .ok (.istore_n 2, 1) := by decide +kernel
theorem dX2_favouriteMoral_38 : decode cX2_favouriteMoral 38 = .ok (.iload_n 3, 1) := by decide +kernel
theorem dX2_favouriteMoral_39 : decode cX2_favouriteMoral 39 = .ok (.istore_n 1, 1) := by decide +kernel
theorem dX2_favouriteMoral_40 : decode cX2_favouriteMoral 40 = .ok (.iinc 3 1, 3) := by decide +kernel
theorem dX2_favouriteMoral_43 : decode cX2_favouriteMoral 43 = .ok (.goto (-37), 3) := by decide +kernel
theorem dX2_favouriteMoral_46 : decode cX2_favouriteMoral 46 = .ok (.iload_n 1, 1) := by decide +kernel
theorem dX2_favouriteMoral_47 : decode cX2_favouriteMoral 47 = .ok (.ireturn, 1) := by decide +kernel
set_option maxRecDepth 20000 in
theorem ggX2_favouriteBeast_X0_withBeast : GoodIn wsX2_favouriteBeast wsX0_withBeast := goodIn_r _ [7, 8, 9, 10, 11, 12, 32, 33, 34, 35, 36, 37, 38] (by decide +kernel) (by decide +kernel)
set_option maxRecDepth 20000 in
theorem gX2_favouriteBeast_X0_withBeast : GoodIn wsX2_favouriteBeast (wsV RX2 154 RX0 yX0_withBeast wsX0_withBeast) := goodIn_app (goodIn_of _ (by decide +kernel)) ggX2_favouriteBeast_X0_withBeast
set_option maxRecDepth 20000 in
theorem ggX2_favouriteBeast_X1_count : GoodIn wsX2_favouriteBeast wsX1_count := goodIn_r _ [17, 18, 19, 11, 20, 21, 22, 23, 24, 25, 26, 27, 39, 40, 41, 42, 43, 44, 45] (by decide +kernel) (by decide +kernel)
set_option maxRecDepth 20000 in
theorem gX2_favouriteBeast_X1_count : GoodIn wsX2_favouriteBeast (wsV RX2 114 RX1 yX1_count wsX1_count) := goodIn_app (goodIn_of _ (by decide +kernel)) ggX2_favouriteBeast_X1_count
theorem dX2_favouriteBeast_0 : decode cX2_favouriteBeast 0 = .ok (.iconst (-1), 1) := by decide +kernel
theorem dX2_favouriteBeast_1 : decode cX2_favouriteBeast 1 = .ok (.istore_n 1, 1) := by decide +kernel
theorem dX2_favouriteBeast_2 : decode cX2_favouriteBeast 2 = .ok (.iconst 0, 1) := by decide +kernel
theorem dX2_favouriteBeast_3 : decode cX2_favouriteBeast 3 = .ok (.istore_n 2, 1) := by decide +kernel
theorem dX2_favouriteBeast_4 : decode cX2_favouriteBeast 4 = .ok (.iconst 0, 1) := by decide +kernel
theorem dX2_favouriteBeast_5 : decode cX2_favouriteBeast 5 = .ok (.istore_n 3, 1) := by decide +kernel
theorem dX2_favouriteBeast_6 : decode cX2_favouriteBeast 6 = .ok (.iload_n 3, 1) := by decide +kernel
theorem dX2_favouriteBeast_7 : decode cX2_favouriteBeast 7 = .ok (.bipush 12, 2) := by decide +kernel
theorem dX2_favouriteBeast_9 : decode cX2_favouriteBeast 9 = .ok (.if_icmp .ge 37, 3) := by decide +kernel
theorem dX2_favouriteBeast_12 : decode cX2_favouriteBeast 12 = .ok (.aload_n 0, 1) := by decide +kernel
theorem dX2_favouriteBeast_13 : decode cX2_favouriteBeast 13 = .ok (.getfield 19, 3) := by decide +kernel
theorem dX2_favouriteBeast_16 : decode cX2_favouriteBeast 16 = .ok (.aload_n 0, 1) := by decide +kernel
theorem dX2_favouriteBeast_17 : decode cX2_favouriteBeast 17 = .ok (.getfield 10, 3) := by decide +kernel
theorem dX2_favouriteBeast_20 : decode cX2_favouriteBeast 20 = .ok (.iload_n 3, 1) := by decide +kernel
theorem dX2_favouriteBeast_21 : decode cX2_favouriteBeast 21 = .ok (.invokevirtual 154, 3) := by decide +kernel
theorem dX2_favouriteBeast_24 : decode cX2_favouriteBeast 24 = .ok (.invokevirtual 114, 3) := by decide +kernel
theorem dX2_favouriteBeast_27 : decode cX2_favouriteBeast 27 = .ok (.istore 4, 2) := by decide +kernel
theorem dX2_favouriteBeast_29 : decode cX2_favouriteBeast 29 = .ok (.iload 4, 2) := by decide +kernel
theorem dX2_favouriteBeast_31 : decode cX2_favouriteBeast 31 = .ok (.iload_n 2, 1) := by decide +kernel
theorem dX2_favouriteBeast_32 : decode cX2_favouriteBeast 32 = .ok (.if_icmp .le 8, 3) := by decide +kernel
theorem dX2_favouriteBeast_35 : decode cX2_favouriteBeast 35 = .ok (.iload 4, 2) := by decide +kernel
theorem dX2_favouriteBeast_37 : decode cX2_favouriteBeast 37 = .ok (.istore_n 2, 1) := by decide +kernel
theorem dX2_favouriteBeast_38 : decode cX2_favouriteBeast 38 = .ok (.iload_n 3, 1) := by decide +kernel
theorem dX2_favouriteBeast_39 : decode cX2_favouriteBeast 39 = .ok (.istore_n 1, 1) := by decide +kernel
theorem dX2_favouriteBeast_40 : decode cX2_favouriteBeast 40 = .ok (.iinc 3 1, 3) := by decide +kernel
theorem dX2_favouriteBeast_43 : decode cX2_favouriteBeast 43 = .ok (.goto (-37), 3) := by decide +kernel
theorem dX2_favouriteBeast_46 : decode cX2_favouriteBeast 46 = .ok (.iload_n 1, 1) := by decide +kernel
theorem dX2_favouriteBeast_47 : decode cX2_favouriteBeast 47 = .ok (.ireturn, 1) := by decide +kernel
set_option maxRecDepth 20000 in
theorem ggX2_seasonsUntil_X2_needFable : GoodIn wsX2_seasonsUntil wsX2_needFable := goodIn_ca (goodIn_r _ [9, 10, 11, 4, 12, 74, 75, 76, 77, 85, 86, 87, 88, 89, 90, 91] (by decide +kernel) (by decide +kernel)) (goodIn_sub (fun _ h => List.mem_cons_of_mem _ (List.mem_append_right _ h)) (by decide +kernel))
set_option maxRecDepth 20000 in
theorem gX2_seasonsUntil_X2_needFable : GoodIn wsX2_seasonsUntil (wsV RX2 47 RX2 yX2_needFable wsX2_needFable) := goodIn_app (goodIn_of _ (by decide +kernel)) ggX2_seasonsUntil_X2_needFable
set_option maxRecDepth 20000 in
theorem ggX2_seasonsUntil_X2_needValley : GoodIn wsX2_seasonsUntil wsX2_needValley := goodIn_ca (goodIn_r _ [15, 10, 11] (by decide +kernel) (by decide +kernel)) (goodIn_sub (fun _ h => List.mem_cons_of_mem _ (List.mem_append_right _ h)) (by decide +kernel))
set_option maxRecDepth 20000 in
theorem gX2_seasonsUntil_X2_needValley : GoodIn wsX2_seasonsUntil (va_wsS RX2 37 yX2_needValley wsX2_needValley) := goodIn_app (goodIn_of _ (by decide +kernel)) ggX2_seasonsUntil_X2_needValley
set_option maxRecDepth 20000 in
theorem ggX2_seasonsUntil_X1_become : GoodIn wsX2_seasonsUntil wsX1_become := goodIn_r _ [20, 21, 22, 23, 24, 25, 78, 79, 80, 81, 82, 83, 84] (by decide +kernel) (by decide +kernel)
set_option maxRecDepth 20000 in
theorem gX2_seasonsUntil_X1_become : GoodIn wsX2_seasonsUntil (wsV RX2 157 RX1 yX1_become wsX1_become) := goodIn_app (goodIn_of _ (by decide +kernel)) ggX2_seasonsUntil_X1_become
set_option maxRecDepth 20000 in
theorem ggX2_seasonsUntil_X2_has : GoodIn wsX2_seasonsUntil wsX2_has := goodIn_r _ [28] (by decide +kernel) (by decide +kernel)
set_option maxRecDepth 20000 in
theorem gX2_seasonsUntil_X2_has : GoodIn wsX2_seasonsUntil (va_wsS RX2 54 yX2_has wsX2_has) := goodIn_app (goodIn_of _ (by decide +kernel)) ggX2_seasonsUntil_X2_has
set_option maxRecDepth 20000 in
theorem ggX2_seasonsUntil_X1_live : GoodIn wsX2_seasonsUntil wsX1_live := goodIn_r _ [32, 33, 34, 35, 36, 19, 37, 38, 39, 40, 41, 42, 22, 43, 23, 44, 27, 8, 28, 45, 46, 47, 48, 49, 24, 25, 50, 51, 52, 53, 54, 55, 56, 57, 58, 59, 60, 61, 62, 63, 64, 65, 66, 21, 67, 68, 69, 70, 71, 72, 73, 78, 79, 80, 81, 82, 83, 84, 85, 86, 87, 88, 89, 90, 91] (by decide +kernel) (by decide +kernel)
set_option maxRecDepth 20000 in
theorem gX2_seasonsUntil_X1_live : GoodIn wsX2_seasonsUntil (wsV RX2 122 RX1 yX1_live wsX1_live) := goodIn_app (goodIn_of _ (by decide +kernel)) ggX2_seasonsUntil_X1_live
theorem dX2_seasonsUntil_0 : decode cX2_seasonsUntil 0 = .ok (.aload_n 0, 1) := by decide +kernel
theorem dX2_seasonsUntil_1 : decode cX2_seasonsUntil 1 = .ok (.iload_n 1, 1) := by decide +kernel
theorem dX2_seasonsUntil_2 : decode cX2_seasonsUntil 2 = .ok (.invokevirtual 47, 3) := by decide +kernel
theorem dX2_seasonsUntil_5 : decode cX2_seasonsUntil 5 = .ok (.iload_n 2, 1) := by decide +kernel
theorem dX2_seasonsUntil_6 : decode cX2_seasonsUntil 6 = .ok (.invokestatic 37, 3) := by decide +kernel
theorem dX2_seasonsUntil_9 : decode cX2_seasonsUntil 9 = .ok (.aload_n 0, 1) := by decide +kernel
theorem dX2_seasonsUntil_10 : decode cX2_seasonsUntil 10 = .ok (.getfield 23, 3) := by decide +kernel
theorem dX2_seasonsUntil_13 : decode cX2_seasonsUntil 13 = .ok (.aload_n 0, 1) := by decide +kernel
theorem dX2_seasonsUntil_14 : decode cX2_seasonsUntil 14 = .ok (.getfield 19, 3) := by decide +kernel
theorem dX2_seasonsUntil_17 : decode cX2_seasonsUntil 17 = .ok (.invokevirtual 157, 3) := by decide +kernel
theorem dX2_seasonsUntil_20 : decode cX2_seasonsUntil 20 = .ok (.iconst 0, 1) := by decide +kernel
theorem dX2_seasonsUntil_21 : decode cX2_seasonsUntil 21 = .ok (.istore_n 3, 1) := by decide +kernel
theorem dX2_seasonsUntil_22 : decode cX2_seasonsUntil 22 = .ok (.iload_n 3, 1) := by decide +kernel
theorem dX2_seasonsUntil_23 : decode cX2_seasonsUntil 23 = .ok (.bipush 40, 2) := by decide +kernel
theorem dX2_seasonsUntil_25 : decode cX2_seasonsUntil 25 = .ok (.if_icmp .ge 39, 3) := by decide +kernel
theorem dX2_seasonsUntil_28 : decode cX2_seasonsUntil 28 = .ok (.aload_n 0, 1) := by decide +kernel
theorem dX2_seasonsUntil_29 : decode cX2_seasonsUntil 29 = .ok (.getfield 23, 3) := by decide +kernel
theorem dX2_seasonsUntil_32 : decode cX2_seasonsUntil 32 = .ok (.getfield 103, 3) := by decide +kernel
theorem dX2_seasonsUntil_35 : decode cX2_seasonsUntil 35 = .ok (.iload_n 2, 1) := by decide +kernel
theorem dX2_seasonsUntil_36 : decode cX2_seasonsUntil 36 = .ok (.iaload, 1) := by decide +kernel
theorem dX2_seasonsUntil_37 : decode cX2_seasonsUntil 37 = .ok (.iload_n 1, 1) := by decide +kernel
theorem dX2_seasonsUntil_38 : decode cX2_seasonsUntil 38 = .ok (.invokestatic 54, 3) := by decide +kernel
theorem dX2_seasonsUntil_41 : decode cX2_seasonsUntil 41 = .ok (.ifCond .eq 5, 3) := by decide +kernel
theorem dX2_seasonsUntil_44 : decode cX2_seasonsUntil 44 = .ok (.iload_n 3, 1) := by decide +kernel
theorem dX2_seasonsUntil_45 : decode cX2_seasonsUntil 45 = .ok (.ireturn, 1) := by decide +kernel
theorem dX2_seasonsUntil_46 : decode cX2_seasonsUntil 46 = .ok (.aload_n 0, 1) := by decide +kernel
theorem dX2_seasonsUntil_47 : decode cX2_seasonsUntil 47 = .ok (.getfield 23, 3) := by decide +kernel
theorem dX2_seasonsUntil_50 : decode cX2_seasonsUntil 50 = .ok (.aload_n 0, 1) := by decide +kernel
theorem dX2_seasonsUntil_51 : decode cX2_seasonsUntil 51 = .ok (.getfield 10, 3) := by decide +kernel
theorem dX2_seasonsUntil_54 : decode cX2_seasonsUntil 54 = .ok (.iconst 1, 1) := by decide +kernel
theorem dX2_seasonsUntil_55 : decode cX2_seasonsUntil 55 = .ok (.invokevirtual 122, 3) := by decide +kernel
theorem dX2_seasonsUntil_58 : decode cX2_seasonsUntil 58 = .ok (.iinc 3 1, 3) := by decide +kernel
theorem dX2_seasonsUntil_61 : decode cX2_seasonsUntil 61 = .ok (.goto (-39), 3) := by decide +kernel
theorem dX2_seasonsUntil_64 : decode cX2_seasonsUntil 64 = .ok (.aload_n 0, 1) := by decide +kernel
theorem dX2_seasonsUntil_65 : decode cX2_seasonsUntil 65 = .ok (.getfield 23, 3) := by decide +kernel
theorem dX2_seasonsUntil_68 : decode cX2_seasonsUntil 68 = .ok (.getfield 103, 3) := by decide +kernel
theorem dX2_seasonsUntil_71 : decode cX2_seasonsUntil 71 = .ok (.iload_n 2, 1) := by decide +kernel
theorem dX2_seasonsUntil_72 : decode cX2_seasonsUntil 72 = .ok (.iaload, 1) := by decide +kernel
theorem dX2_seasonsUntil_73 : decode cX2_seasonsUntil 73 = .ok (.iload_n 1, 1) := by decide +kernel
theorem dX2_seasonsUntil_74 : decode cX2_seasonsUntil 74 = .ok (.invokestatic 54, 3) := by decide +kernel
theorem dX2_seasonsUntil_77 : decode cX2_seasonsUntil 77 = .ok (.ifCond .eq 8, 3) := by decide +kernel
theorem dX2_seasonsUntil_80 : decode cX2_seasonsUntil 80 = .ok (.bipush 40, 2) := by decide +kernel
theorem dX2_seasonsUntil_82 : decode cX2_seasonsUntil 82 = .ok (.goto 4, 3) := by decide +kernel
theorem dX2_seasonsUntil_85 : decode cX2_seasonsUntil 85 = .ok (.iconst (-1), 1) := by decide +kernel
theorem dX2_seasonsUntil_86 : decode cX2_seasonsUntil 86 = .ok (.ireturn, 1) := by decide +kernel
set_option maxRecDepth 20000 in
theorem ggX2_tellingsAfter_X2_needSeasons : GoodIn wsX2_tellingsAfter wsX2_needSeasons := goodIn_ca (goodIn_r _ [6, 7, 8] (by decide +kernel) (by decide +kernel)) (goodIn_sub (fun _ h => List.mem_cons_of_mem _ (List.mem_append_right _ h)) (by decide +kernel))
set_option maxRecDepth 20000 in
theorem gX2_tellingsAfter_X2_needSeasons : GoodIn wsX2_tellingsAfter (va_wsS RX2 119 yX2_needSeasons wsX2_needSeasons) := goodIn_app (goodIn_of _ (by decide +kernel)) ggX2_tellingsAfter_X2_needSeasons
set_option maxRecDepth 20000 in
theorem ggX2_tellingsAfter_X1_become : GoodIn wsX2_tellingsAfter wsX1_become := goodIn_r _ [13, 14, 15, 16, 17, 18, 85, 86, 87, 88, 89, 90, 91] (by decide +kernel) (by decide +kernel)
set_option maxRecDepth 20000 in
theorem gX2_tellingsAfter_X1_become : GoodIn wsX2_tellingsAfter (wsV RX2 157 RX1 yX1_become wsX1_become) := goodIn_app (goodIn_of _ (by decide +kernel)) ggX2_tellingsAfter_X1_become
set_option maxRecDepth 20000 in
theorem ggX2_tellingsAfter_X2_tellingsOfTrial : GoodIn wsX2_tellingsAfter wsX2_tellingsOfTrial := goodIn_r _ [22, 1, 23, 24, 25, 26, 12, 27, 28, 29, 30, 31, 32, 33, 34, 35, 36, 37, 15, 38, 16, 39, 40, 5, 41, 42, 43, 44, 45, 46, 17, 18, 47, 48, 49, 50, 51, 52, 53, 54, 55, 56, 57, 58, 59, 60, 61, 62, 63, 14, 64, 65, 66, 67, 68, 69, 70, 71, 72, 73, 74, 75, 76, 77, 78, 79, 80, 81, 82, 83, 84, 85, 86, 87, 88, 89, 90, 91, 92, 93, 94, 95, 96, 97, 98] (by decide +kernel) (by decide +kernel)
set_option maxRecDepth 20000 in
theorem gX2_tellingsAfter_X2_tellingsOfTrial : GoodIn wsX2_tellingsAfter (wsV RX2 161 RX2 yX2_tellingsOfTrial wsX2_tellingsOfTrial) := goodIn_app (goodIn_of _ (by decide +kernel)) ggX2_tellingsAfter_X2_tellingsOfTrial
theorem dX2_tellingsAfter_0 : decode cX2_tellingsAfter 0 = .ok (.iload_n 1, 1) := by decide +kernel
theorem dX2_tellingsAfter_1 : decode cX2_tellingsAfter 1 = .ok (.bipush 40, 2) := by decide +kernel
theorem dX2_tellingsAfter_3 : decode cX2_tellingsAfter 3 = .ok (.invokestatic 119, 3) := by decide +kernel
theorem dX2_tellingsAfter_6 : decode cX2_tellingsAfter 6 = .ok (.aload_n 0, 1) := by decide +kernel
theorem dX2_tellingsAfter_7 : decode cX2_tellingsAfter 7 = .ok (.getfield 23, 3) := by decide +kernel
theorem dX2_tellingsAfter_10 : decode cX2_tellingsAfter 10 = .ok (.aload_n 0, 1) := by decide +kernel
theorem dX2_tellingsAfter_11 : decode cX2_tellingsAfter 11 = .ok (.getfield 19, 3) := by decide +kernel
theorem dX2_tellingsAfter_14 : decode cX2_tellingsAfter 14 = .ok (.invokevirtual 157, 3) := by decide +kernel
theorem dX2_tellingsAfter_17 : decode cX2_tellingsAfter 17 = .ok (.aload_n 0, 1) := by decide +kernel
theorem dX2_tellingsAfter_18 : decode cX2_tellingsAfter 18 = .ok (.iload_n 1, 1) := by decide +kernel
theorem dX2_tellingsAfter_19 : decode cX2_tellingsAfter 19 = .ok (.invokevirtual 161, 3) := by decide +kernel
theorem dX2_tellingsAfter_22 : decode cX2_tellingsAfter 22 = .ok (.ireturn, 1) := by decide +kernel
set_option maxRecDepth 20000 in
theorem ggX2_bestPass_X2_needSeasons : GoodIn wsX2_bestPass wsX2_needSeasons := goodIn_ca (goodIn_r _ [7, 8, 9] (by decide +kernel) (by decide +kernel)) (goodIn_sub (fun _ h => List.mem_cons_of_mem _ (List.mem_append_right _ h)) (by decide +kernel))
set_option maxRecDepth 20000 in
theorem gX2_bestPass_X2_needSeasons : GoodIn wsX2_bestPass (va_wsS RX2 119 yX2_needSeasons wsX2_needSeasons) := goodIn_app (goodIn_of _ (by decide +kernel)) ggX2_bestPass_X2_needSeasons
set_option maxRecDepth 20000 in
theorem ggX2_bestPass_X1_become : GoodIn wsX2_bestPass wsX1_become := goodIn_r _ [14, 15, 16, 17, 18, 19, 97, 98, 99, 100, 101, 102, 103] (by decide +kernel) (by decide +kernel)
set_option maxRecDepth 20000 in
theorem gX2_bestPass_X1_become : GoodIn wsX2_bestPass (wsV RX2 157 RX1 yX1_become wsX1_become) := goodIn_app (goodIn_of _ (by decide +kernel)) ggX2_bestPass_X1_become
set_option maxRecDepth 20000 in
theorem ggX2_bestPass_X2_tellingsOfTrial : GoodIn wsX2_bestPass wsX2_tellingsOfTrial := goodIn_r _ [23, 1, 24, 25, 26, 27, 13, 28, 29, 30, 31, 32, 33, 34, 35, 36, 37, 38, 16, 39, 17, 40, 41, 6, 42, 43, 44, 45, 46, 47, 18, 19, 48, 49, 50, 51, 52, 53, 54, 55, 56, 57, 58, 59, 60, 61, 62, 63, 64, 15, 65, 66, 67, 68, 69, 70, 71, 72, 73, 74, 75, 76, 77, 78, 79, 80, 81, 93, 94, 95, 96, 97, 98, 99, 100, 101, 102, 103, 104, 105, 106, 107, 108, 109, 110] (by decide +kernel) (by decide +kernel)
set_option maxRecDepth 20000 in
theorem gX2_bestPass_X2_tellingsOfTrial : GoodIn wsX2_bestPass (wsV RX2 161 RX2 yX2_tellingsOfTrial wsX2_tellingsOfTrial) := goodIn_app (goodIn_of _ (by decide +kernel)) ggX2_bestPass_X2_tellingsOfTrial
set_option maxRecDepth 20000 in
theorem ggX2_bestPass_X2_has : GoodIn wsX2_bestPass wsX2_has := goodIn_r _ [42] (by decide +kernel) (by decide +kernel)
set_option maxRecDepth 20000 in
theorem gX2_bestPass_X2_has : GoodIn wsX2_bestPass (va_wsS RX2 54 yX2_has wsX2_has) := goodIn_app (goodIn_of _ (by decide +kernel)) ggX2_bestPass_X2_has
set_option maxRecDepth 20000 in
theorem ggX2_bestPass_X2_tellingsWithPass : GoodIn wsX2_bestPass wsX2_tellingsWithPass := goodIn_r _ [86, 1, 2, 10, 11, 12, 13, 14, 15, 16, 17, 18, 19, 87, 88, 89, 90, 91, 6, 92, 20, 21, 22, 23, 24, 25, 26, 27, 28, 29, 30, 31, 32, 33, 34, 35, 36, 37, 38, 39, 40, 41, 42, 43, 44, 45, 46, 47, 48, 49, 50, 51, 52, 53, 54, 55, 56, 57, 58, 59, 60, 61, 62, 63, 64, 65, 66, 67, 68, 69, 70, 71, 72, 73, 74, 75, 76, 77, 78, 79, 80, 81, 93, 94, 95, 96, 97, 98, 99, 100, 101, 102, 103, 104, 105, 106, 107, 108, 109, 110] (by decide +kernel) (by decide +kernel)
set_option maxRecDepth 20000 in
theorem gX2_bestPass_X2_tellingsWithPass : GoodIn wsX2_bestPass (wsV RX2 164 RX2 yX2_tellingsWithPass wsX2_tellingsWithPass) := goodIn_app (goodIn_of _ (by decide +kernel)) ggX2_bestPass_X2_tellingsWithPass
theorem dX2_bestPass_0 : decode cX2_bestPass 0 = .ok (.iload_n 1, 1) := by decide +kernel
theorem dX2_bestPass_1 : decode cX2_bestPass 1 = .ok (.bipush 20, 2) := by decide +kernel
theorem dX2_bestPass_3 : decode cX2_bestPass 3 = .ok (.invokestatic 119, 3) := by decide +kernel
theorem dX2_bestPass_6 : decode cX2_bestPass 6 = .ok (.aload_n 0, 1) := by decide +kernel
theorem dX2_bestPass_7 : decode cX2_bestPass 7 = .ok (.getfield 23, 3) := by decide +kernel
theorem dX2_bestPass_10 : decode cX2_bestPass 10 = .ok (.aload_n 0, 1) := by decide +kernel
theorem dX2_bestPass_11 : decode cX2_bestPass 11 = .ok (.getfield 19, 3) := by decide +kernel
theorem dX2_bestPass_14 : decode cX2_bestPass 14 = .ok (.invokevirtual 157, 3) := by decide +kernel
theorem dX2_bestPass_17 : decode cX2_bestPass 17 = .ok (.aload_n 0, 1) := by decide +kernel
theorem dX2_bestPass_18 : decode cX2_bestPass 18 = .ok (.iload_n 1, 1) := by decide +kernel
theorem dX2_bestPass_19 : decode cX2_bestPass 19 = .ok (.invokevirtual 161, 3) := by decide +kernel
theorem dX2_bestPass_22 : decode cX2_bestPass 22 = .ok (.istore_n 2, 1) := by decide +kernel
theorem dX2_bestPass_23 : decode cX2_bestPass 23 = .ok (.iconst (-1), 1) := by decide +kernel
theorem dX2_bestPass_24 : decode cX2_bestPass 24 = .ok (.istore_n 3, 1) := by decide +kernel
theorem dX2_bestPass_25 : decode cX2_bestPass 25 = .ok (.iconst 0, 1) := by decide +kernel
theorem dX2_bestPass_26 : decode cX2_bestPass 26 = .ok (.istore 4, 2) := by decide +kernel
theorem dX2_bestPass_28 : decode cX2_bestPass 28 = .ok (.iload 4, 2) := by decide +kernel
theorem dX2_bestPass_30 : decode cX2_bestPass 30 = .ok (.bipush 6, 2) := by decide +kernel
theorem dX2_bestPass_32 : decode cX2_bestPass 32 = .ok (.if_icmp .ge 79, 3) := by decide +kernel
theorem dX2_bestPass_35 : decode cX2_bestPass 35 = .ok (.iload 4, 2) := by decide +kernel
theorem dX2_bestPass_37 : decode cX2_bestPass 37 = .ok (.iconst 1, 1) := by decide +kernel
theorem dX2_bestPass_38 : decode cX2_bestPass 38 = .ok (.iadd, 1) := by decide +kernel
theorem dX2_bestPass_39 : decode cX2_bestPass 39 = .ok (.istore 5, 2) := by decide +kernel
theorem dX2_bestPass_41 : decode cX2_bestPass 41 = .ok (.iload 5, 2) := by decide +kernel
theorem dX2_bestPass_43 : decode cX2_bestPass 43 = .ok (.bipush 6, 2) := by decide +kernel
theorem dX2_bestPass_45 : decode cX2_bestPass 45 = .ok (.if_icmp .ge 60, 3) := by decide +kernel
theorem dX2_bestPass_48 : decode cX2_bestPass 48 = .ok (.aload_n 0, 1) := by decide +kernel
theorem dX2_bestPass_49 : decode cX2_bestPass 49 = .ok (.getfield 19, 3) := by decide +kernel
theorem dX2_bestPass_52 : decode cX2_bestPass 52 = .ok (.getfield 94, 3) := by decide +kernel
theorem dX2_bestPass_55 : decode cX2_bestPass 55 = .ok (.iload 4, 2) := by decide +kernel
theorem dX2_bestPass_57 : decode cX2_bestPass 57 = .ok (.iaload, 1) := by decide +kernel
theorem dX2_bestPass_58 : decode cX2_bestPass 58 = .ok (.iload 5, 2) := by decide +kernel
theorem dX2_bestPass_60 : decode cX2_bestPass 60 = .ok (.invokestatic 54, 3) := by decide +kernel
theorem dX2_bestPass_63 : decode cX2_bestPass 63 = .ok (.ifCond .eq 7, 3) := by decide +kernel
theorem dX2_bestPass_66 : decode cX2_bestPass 66 = .ok (.iconst 0, 1) := by decide +kernel
theorem dX2_bestPass_67 : decode cX2_bestPass 67 = .ok (.goto 12, 3) := by decide +kernel
theorem dX2_bestPass_70 : decode cX2_bestPass 70 = .ok (.aload_n 0, 1) := by decide +kernel
theorem dX2_bestPass_71 : decode cX2_bestPass 71 = .ok (.iload 4, 2) := by decide +kernel
theorem dX2_bestPass_73 : decode cX2_bestPass 73 = .ok (.iload 5, 2) := by decide +kernel
theorem dX2_bestPass_75 : decode cX2_bestPass 75 = .ok (.iload_n 1, 1) := by decide +kernel
theorem dX2_bestPass_76 : decode cX2_bestPass 76 = .ok (.invokevirtual 164, 3) := by decide +kernel
theorem dX2_bestPass_79 : decode cX2_bestPass 79 = .ok (.istore 6, 2) := by decide +kernel
theorem dX2_bestPass_81 : decode cX2_bestPass 81 = .ok (.iload 6, 2) := by decide +kernel
theorem dX2_bestPass_83 : decode cX2_bestPass 83 = .ok (.iload_n 2, 1) := by decide +kernel
theorem dX2_bestPass_84 : decode cX2_bestPass 84 = .ok (.if_icmp .le 15, 3) := by decide +kernel
theorem dX2_bestPass_87 : decode cX2_bestPass 87 = .ok (.iload 6, 2) := by decide +kernel
theorem dX2_bestPass_89 : decode cX2_bestPass 89 = .ok (.istore_n 2, 1) := by decide +kernel
theorem dX2_bestPass_90 : decode cX2_bestPass 90 = .ok (.bipush 6, 2) := by decide +kernel
theorem dX2_bestPass_92 : decode cX2_bestPass 92 = .ok (.iload 4, 2) := by decide +kernel
theorem dX2_bestPass_94 : decode cX2_bestPass 94 = .ok (.imul, 1) := by decide +kernel
theorem dX2_bestPass_95 : decode cX2_bestPass 95 = .ok (.iload 5, 2) := by decide +kernel
theorem dX2_bestPass_97 : decode cX2_bestPass 97 = .ok (.iadd, 1) := by decide +kernel
theorem dX2_bestPass_98 : decode cX2_bestPass 98 = .ok (.istore_n 3, 1) := by decide +kernel
theorem dX2_bestPass_99 : decode cX2_bestPass 99 = .ok (.iinc 5 1, 3) := by decide +kernel
theorem dX2_bestPass_102 : decode cX2_bestPass 102 = .ok (.goto (-61), 3) := by decide +kernel
theorem dX2_bestPass_105 : decode cX2_bestPass 105 = .ok (.iinc 4 1, 3) := by decide +kernel
theorem dX2_bestPass_108 : decode cX2_bestPass 108 = .ok (.goto (-80), 3) := by decide +kernel
theorem dX2_bestPass_111 : decode cX2_bestPass 111 = .ok (.iload_n 3, 1) := by decide +kernel
theorem dX2_bestPass_112 : decode cX2_bestPass 112 = .ok (.ireturn, 1) := by decide +kernel
set_option maxRecDepth 20000 in
theorem ggX2_meanBeasts_X2_size : GoodIn wsX2_meanBeasts wsX2_size := goodIn_r _ [7, 8, 9, 10, 11, 12, 13, 14] (by decide +kernel) (by decide +kernel)
set_option maxRecDepth 20000 in
theorem gX2_meanBeasts_X2_size : GoodIn wsX2_meanBeasts (va_wsS RX2 70 yX2_size wsX2_size) := goodIn_app (goodIn_of _ (by decide +kernel)) ggX2_meanBeasts_X2_size
theorem dX2_meanBeasts_0 : decode cX2_meanBeasts 0 = .ok (.aload_n 0, 1) := by decide +kernel
theorem dX2_meanBeasts_1 : decode cX2_meanBeasts 1 = .ok (.getfield 10, 3) := by decide +kernel
theorem dX2_meanBeasts_4 : decode cX2_meanBeasts 4 = .ok (.getfield 146, 3) := by decide +kernel
theorem dX2_meanBeasts_7 : decode cX2_meanBeasts 7 = .ok (.ifCond .ne 5, 3) := by decide +kernel
theorem dX2_meanBeasts_10 : decode cX2_meanBeasts 10 = .ok (.dconst 0, 1) := by decide +kernel
theorem dX2_meanBeasts_11 : decode cX2_meanBeasts 11 = .ok (.dreturn, 1) := by decide +kernel
theorem dX2_meanBeasts_12 : decode cX2_meanBeasts 12 = .ok (.iconst 0, 1) := by decide +kernel
theorem dX2_meanBeasts_13 : decode cX2_meanBeasts 13 = .ok (.istore_n 1, 1) := by decide +kernel
theorem dX2_meanBeasts_14 : decode cX2_meanBeasts 14 = .ok (.iconst 0, 1) := by decide +kernel
theorem dX2_meanBeasts_15 : decode cX2_meanBeasts 15 = .ok (.istore_n 2, 1) := by decide +kernel
theorem dX2_meanBeasts_16 : decode cX2_meanBeasts 16 = .ok (.iload_n 2, 1) := by decide +kernel
theorem dX2_meanBeasts_17 : decode cX2_meanBeasts 17 = .ok (.aload_n 0, 1) := by decide +kernel
theorem dX2_meanBeasts_18 : decode cX2_meanBeasts 18 = .ok (.getfield 10, 3) := by decide +kernel
theorem dX2_meanBeasts_21 : decode cX2_meanBeasts 21 = .ok (.getfield 146, 3) := by decide +kernel
theorem dX2_meanBeasts_24 : decode cX2_meanBeasts 24 = .ok (.if_icmp .ge 24, 3) := by decide +kernel
theorem dX2_meanBeasts_27 : decode cX2_meanBeasts 27 = .ok (.iload_n 1, 1) := by decide +kernel
theorem dX2_meanBeasts_28 : decode cX2_meanBeasts 28 = .ok (.aload_n 0, 1) := by decide +kernel
theorem dX2_meanBeasts_29 : decode cX2_meanBeasts 29 = .ok (.getfield 10, 3) := by decide +kernel
theorem dX2_meanBeasts_32 : decode cX2_meanBeasts 32 = .ok (.getfield 50, 3) := by decide +kernel
theorem dX2_meanBeasts_35 : decode cX2_meanBeasts 35 = .ok (.iload_n 2, 1) := by decide +kernel
theorem dX2_meanBeasts_36 : decode cX2_meanBeasts 36 = .ok (.iaload, 1) := by decide +kernel
theorem dX2_meanBeasts_37 : decode cX2_meanBeasts 37 = .ok (.invokestatic 70, 3) := by decide +kernel
theorem dX2_meanBeasts_40 : decode cX2_meanBeasts 40 = .ok (.iadd, 1) := by decide +kernel
theorem dX2_meanBeasts_41 : decode cX2_meanBeasts 41 = .ok (.istore_n 1, 1) := by decide +kernel
theorem dX2_meanBeasts_42 : decode cX2_meanBeasts 42 = .ok (.iinc 2 1, 3) := by decide +kernel
theorem dX2_meanBeasts_45 : decode cX2_meanBeasts 45 = .ok (.goto (-29), 3) := by decide +kernel
theorem dX2_meanBeasts_48 : decode cX2_meanBeasts 48 = .ok (.iload_n 1, 1) := by decide +kernel
theorem dX2_meanBeasts_49 : decode cX2_meanBeasts 49 = .ok (.i2d, 1) := by decide +kernel
theorem dX2_meanBeasts_50 : decode cX2_meanBeasts 50 = .ok (.aload_n 0, 1) := by decide +kernel
theorem dX2_meanBeasts_51 : decode cX2_meanBeasts 51 = .ok (.getfield 10, 3) := by decide +kernel
theorem dX2_meanBeasts_54 : decode cX2_meanBeasts 54 = .ok (.getfield 146, 3) := by decide +kernel
theorem dX2_meanBeasts_57 : decode cX2_meanBeasts 57 = .ok (.i2d, 1) := by decide +kernel
theorem dX2_meanBeasts_58 : decode cX2_meanBeasts 58 = .ok (.ddiv, 1) := by decide +kernel
theorem dX2_meanBeasts_59 : decode cX2_meanBeasts 59 = .ok (.dreturn, 1) := by decide +kernel
set_option maxRecDepth 20000 in
theorem ggX2_digest_X2_fables : GoodIn wsX2_digest wsX2_fables := goodIn_r _ [8, 2, 3, 166, 167, 168, 169, 170, 171, 172, 173, 174, 175, 176] (by decide +kernel) (by decide +kernel)
set_option maxRecDepth 20000 in
theorem gX2_digest_X2_fables : GoodIn wsX2_digest (wsV RX2 170 RX2 yX2_fables wsX2_fables) := goodIn_app (goodIn_of _ (by decide +kernel)) ggX2_digest_X2_fables
set_option maxRecDepth 20000 in
theorem ggX2_digest_X2_mixed : GoodIn wsX2_digest wsX2_mixed := goodIn_r _ [11, 12] (by decide +kernel) (by decide +kernel)
set_option maxRecDepth 20000 in
theorem gX2_digest_X2_mixed : GoodIn wsX2_digest (va_wsS RX2 173 yX2_mixed wsX2_mixed) := goodIn_app (goodIn_of _ (by decide +kernel)) ggX2_digest_X2_mixed
set_option maxRecDepth 20000 in
theorem ggX2_digest_X2_season : GoodIn wsX2_digest wsX2_season := goodIn_r _ [16, 17, 166, 167, 168, 169] (by decide +kernel) (by decide +kernel)
set_option maxRecDepth 20000 in
theorem gX2_digest_X2_season : GoodIn wsX2_digest (wsV RX2 177 RX2 yX2_season wsX2_season) := goodIn_app (goodIn_of _ (by decide +kernel)) ggX2_digest_X2_season
set_option maxRecDepth 20000 in
theorem ggX2_digest_X2_tellings : GoodIn wsX2_digest wsX2_tellings := goodIn_r _ [21, 22, 2, 23, 24, 25, 26, 27, 28, 29, 30, 31, 32, 33, 34, 35, 7, 36, 37, 38, 39, 40, 41, 42, 43, 166, 167, 168, 169, 170, 171, 172, 173, 174, 175, 176, 177, 178, 179, 180, 181, 182, 183] (by decide +kernel) (by decide +kernel)
set_option maxRecDepth 20000 in
theorem gX2_digest_X2_tellings : GoodIn wsX2_digest (wsV RX2 179 RX2 yX2_tellings wsX2_tellings) := goodIn_app (goodIn_of _ (by decide +kernel)) ggX2_digest_X2_tellings
set_option maxRecDepth 20000 in
theorem ggX2_digest_X2_silenced : GoodIn wsX2_digest wsX2_silenced := goodIn_r _ [47, 22, 48, 166, 167, 168, 169, 177, 178, 179, 180, 181, 182, 183] (by decide +kernel) (by decide +kernel)
set_option maxRecDepth 20000 in
theorem gX2_digest_X2_silenced : GoodIn wsX2_digest (wsV RX2 182 RX2 yX2_silenced wsX2_silenced) := goodIn_app (goodIn_of _ (by decide +kernel)) ggX2_digest_X2_silenced
set_option maxRecDepth 20000 in
theorem ggX2_digest_X2_favouriteMoral : GoodIn wsX2_digest wsX2_favouriteMoral := goodIn_r _ [52, 22, 2, 53, 54, 55, 26, 56, 28, 57, 29, 30, 31, 32, 33, 34, 35, 7, 36, 37, 38, 39, 40, 41, 42, 43, 166, 167, 168, 169, 170, 171, 172, 173, 174, 175, 176, 177, 178, 179, 180, 181, 182, 183] (by decide +kernel) (by decide +kernel)
set_option maxRecDepth 20000 in
theorem gX2_digest_X2_favouriteMoral : GoodIn wsX2_digest (wsV RX2 185 RX2 yX2_favouriteMoral wsX2_favouriteMoral) := goodIn_app (goodIn_of _ (by decide +kernel)) ggX2_digest_X2_favouriteMoral
set_option maxRecDepth 20000 in
theorem ggX2_digest_X2_favouriteBeast : GoodIn wsX2_digest wsX2_favouriteBeast := goodIn_r _ [61, 22, 2, 62, 63, 64, 26, 65, 28, 66, 67, 7, 68, 29, 30, 31, 32, 33, 34, 35, 36, 37, 38, 39, 40, 41, 42, 43, 166, 167, 168, 169, 170, 171, 172, 173, 174, 175, 176, 177, 178, 179, 180, 181, 182, 183] (by decide +kernel) (by decide +kernel)
set_option maxRecDepth 20000 in
theorem gX2_digest_X2_favouriteBeast : GoodIn wsX2_digest (wsV RX2 188 RX2 yX2_favouriteBeast wsX2_favouriteBeast) := goodIn_app (goodIn_of _ (by decide +kernel)) ggX2_digest_X2_favouriteBeast
set_option maxRecDepth 20000 in
theorem ggX2_digest_X2_mixedWithFable : GoodIn wsX2_digest wsX2_mixedWithFable := goodIn_ca (goodIn_r _ [72, 73, 74, 75, 7, 76, 2, 77, 78, 79, 80, 81, 82, 83, 3, 9, 10, 11, 12, 84, 85, 86, 87, 88, 89, 35, 36, 37, 38, 39, 40, 41, 42, 43, 90, 91, 92, 93, 94, 95, 96, 97, 98, 99, 100, 101, 102, 103, 104, 105, 106, 107, 108, 22, 29, 30, 31, 32, 33, 34, 109, 110, 111, 112, 113, 114, 115, 116, 67, 68, 117, 118, 119, 120, 121, 122, 123, 124, 125, 126, 127, 128, 129, 130, 131, 132, 133, 134, 135, 136, 166, 167, 168, 169, 170, 171, 172, 173, 174, 175, 176, 177, 178, 179, 180, 181, 182, 183] (by decide +kernel) (by decide +kernel)) (goodIn_sub (fun _ h => List.mem_cons_of_mem _ (List.mem_append_right _ h)) (by decide +kernel))
set_option maxRecDepth 20000 in
theorem gX2_digest_X2_mixedWithFable : GoodIn wsX2_digest (wsV RX2 191 RX2 yX2_mixedWithFable wsX2_mixedWithFable) := goodIn_app (goodIn_of _ (by decide +kernel)) ggX2_digest_X2_mixedWithFable
set_option maxRecDepth 20000 in
theorem ggX2_digest_X2_mixedWithValley : GoodIn wsX2_digest wsX2_mixedWithValley := goodIn_ca (goodIn_r _ [140, 141, 142, 143, 7, 144, 22, 121, 122, 123, 124, 82, 83, 89, 35, 36, 37, 38, 39, 40, 41, 42, 43, 9, 10, 11, 12, 145, 146, 147, 148, 2, 149, 150, 151, 32, 152, 153, 154, 130, 131, 132, 133, 134, 135, 136, 67, 68, 155, 156, 157, 158, 159, 160, 161, 162, 163, 164, 165, 116, 166, 167, 168, 169, 177, 178, 179, 180, 181, 182, 183, 170, 171, 172, 173, 174, 175, 176] (by decide +kernel) (by decide +kernel)) (goodIn_sub (fun _ h => List.mem_cons_of_mem _ (List.mem_append_right _ h)) (by decide +kernel))
set_option maxRecDepth 20000 in
theorem gX2_digest_X2_mixedWithValley : GoodIn wsX2_digest (wsV RX2 194 RX2 yX2_mixedWithValley wsX2_mixedWithValley) := goodIn_app (goodIn_of _ (by decide +kernel)) ggX2_digest_X2_mixedWithValley
theorem dX2_digest_0 : decode cX2_digest 0 = .ok (.ldc2_w 168, 3) := by decide +kernel
theorem dX2_digest_3 : decode cX2_digest 3 = .ok (.lstore_n 1, 1) := by decide +kernel
theorem dX2_digest_4 : decode cX2_digest 4 = .ok (.lload_n 1, 1) := by decide +kernel
theorem dX2_digest_5 : decode cX2_digest 5 = .ok (.aload_n 0, 1) := by decide +kernel
theorem dX2_digest_6 : decode cX2_digest 6 = .ok (.invokevirtual 170, 3) := by decide +kernel
theorem dX2_digest_9 : decode cX2_digest 9 = .ok (.invokestatic 173, 3) := by decide +kernel
theorem dX2_digest_12 : decode cX2_digest 12 = .ok (.lstore_n 1, 1) := by decide +kernel
theorem dX2_digest_13 : decode cX2_digest 13 = .ok (.lload_n 1, 1) := by decide +kernel
theorem dX2_digest_14 : decode cX2_digest 14 = .ok (.aload_n 0, 1) := by decide +kernel
theorem dX2_digest_15 : decode cX2_digest 15 = .ok (.invokevirtual 177, 3) := by decide +kernel
theorem dX2_digest_18 : decode cX2_digest 18 = .ok (.invokestatic 173, 3) := by decide +kernel
theorem dX2_digest_21 : decode cX2_digest 21 = .ok (.lstore_n 1, 1) := by decide +kernel
theorem dX2_digest_22 : decode cX2_digest 22 = .ok (.lload_n 1, 1) := by decide +kernel
theorem dX2_digest_23 : decode cX2_digest 23 = .ok (.aload_n 0, 1) := by decide +kernel
theorem dX2_digest_24 : decode cX2_digest 24 = .ok (.invokevirtual 179, 3) := by decide +kernel
theorem dX2_digest_27 : decode cX2_digest 27 = .ok (.invokestatic 173, 3) := by decide +kernel
theorem dX2_digest_30 : decode cX2_digest 30 = .ok (.lstore_n 1, 1) := by decide +kernel
theorem dX2_digest_31 : decode cX2_digest 31 = .ok (.lload_n 1, 1) := by decide +kernel
theorem dX2_digest_32 : decode cX2_digest 32 = .ok (.aload_n 0, 1) := by decide +kernel
theorem dX2_digest_33 : decode cX2_digest 33 = .ok (.invokevirtual 182, 3) := by decide +kernel
theorem dX2_digest_36 : decode cX2_digest 36 = .ok (.invokestatic 173, 3) := by decide +kernel
theorem dX2_digest_39 : decode cX2_digest 39 = .ok (.lstore_n 1, 1) := by decide +kernel
theorem dX2_digest_40 : decode cX2_digest 40 = .ok (.lload_n 1, 1) := by decide +kernel
theorem dX2_digest_41 : decode cX2_digest 41 = .ok (.aload_n 0, 1) := by decide +kernel
theorem dX2_digest_42 : decode cX2_digest 42 = .ok (.invokevirtual 185, 3) := by decide +kernel
theorem dX2_digest_45 : decode cX2_digest 45 = .ok (.invokestatic 173, 3) := by decide +kernel
theorem dX2_digest_48 : decode cX2_digest 48 = .ok (.lstore_n 1, 1) := by decide +kernel
theorem dX2_digest_49 : decode cX2_digest 49 = .ok (.lload_n 1, 1) := by decide +kernel
theorem dX2_digest_50 : decode cX2_digest 50 = .ok (.aload_n 0, 1) := by decide +kernel
theorem dX2_digest_51 : decode cX2_digest 51 = .ok (.invokevirtual 188, 3) := by decide +kernel
theorem dX2_digest_54 : decode cX2_digest 54 = .ok (.invokestatic 173, 3) := by decide +kernel
theorem dX2_digest_57 : decode cX2_digest 57 = .ok (.lstore_n 1, 1) := by decide +kernel
theorem dX2_digest_58 : decode cX2_digest 58 = .ok (.iconst 0, 1) := by decide +kernel
theorem dX2_digest_59 : decode cX2_digest 59 = .ok (.istore_n 3, 1) := by decide +kernel
theorem dX2_digest_60 : decode cX2_digest 60 = .ok (.iload_n 3, 1) := by decide +kernel
theorem dX2_digest_61 : decode cX2_digest 61 = .ok (.aload_n 0, 1) := by decide +kernel
theorem dX2_digest_62 : decode cX2_digest 62 = .ok (.getfield 10, 3) := by decide +kernel
theorem dX2_digest_65 : decode cX2_digest 65 = .ok (.getfield 146, 3) := by decide +kernel
theorem dX2_digest_68 : decode cX2_digest 68 = .ok (.if_icmp .ge 16, 3) := by decide +kernel
theorem dX2_digest_71 : decode cX2_digest 71 = .ok (.aload_n 0, 1) := by decide +kernel
theorem dX2_digest_72 : decode cX2_digest 72 = .ok (.lload_n 1, 1) := by decide +kernel
theorem dX2_digest_73 : decode cX2_digest 73 = .ok (.iload_n 3, 1) := by decide +kernel
theorem dX2_digest_74 : decode cX2_digest 74 = .ok (.invokevirtual 191, 3) := by decide +kernel
theorem dX2_digest_77 : decode cX2_digest 77 = .ok (.lstore_n 1, 1) := by decide +kernel
theorem dX2_digest_78 : decode cX2_digest 78 = .ok (.iinc 3 1, 3) := by decide +kernel
theorem dX2_digest_81 : decode cX2_digest 81 = .ok (.goto (-21), 3) := by decide +kernel
theorem dX2_digest_84 : decode cX2_digest 84 = .ok (.iconst 0, 1) := by decide +kernel
theorem dX2_digest_85 : decode cX2_digest 85 = .ok (.istore_n 3, 1) := by decide +kernel
theorem dX2_digest_86 : decode cX2_digest 86 = .ok (.iload_n 3, 1) := by decide +kernel
theorem dX2_digest_87 : decode cX2_digest 87 = .ok (.bipush 6, 2) := by decide +kernel
theorem dX2_digest_89 : decode cX2_digest 89 = .ok (.if_icmp .ge 16, 3) := by decide +kernel
theorem dX2_digest_92 : decode cX2_digest 92 = .ok (.aload_n 0, 1) := by decide +kernel
theorem dX2_digest_93 : decode cX2_digest 93 = .ok (.lload_n 1, 1) := by decide +kernel
theorem dX2_digest_94 : decode cX2_digest 94 = .ok (.iload_n 3, 1) := by decide +kernel
theorem dX2_digest_95 : decode cX2_digest 95 = .ok (.invokevirtual 194, 3) := by decide +kernel
theorem dX2_digest_98 : decode cX2_digest 98 = .ok (.lstore_n 1, 1) := by decide +kernel
theorem dX2_digest_99 : decode cX2_digest 99 = .ok (.iinc 3 1, 3) := by decide +kernel
theorem dX2_digest_102 : decode cX2_digest 102 = .ok (.goto (-16), 3) := by decide +kernel
theorem dX2_digest_105 : decode cX2_digest 105 = .ok (.lload_n 1, 1) := by decide +kernel
theorem dX2_digest_106 : decode cX2_digest 106 = .ok (.lreturn, 1) := by decide +kernel
set_option maxRecDepth 20000 in
theorem ggX2_mixedWithFable_X2_moralOf : GoodIn wsX2_mixedWithFable wsX2_moralOf := goodIn_ca (goodIn_r _ [5, 6, 7, 8, 9, 10, 4, 11, 12, 13, 14, 90, 91, 92, 93, 94, 95, 96, 97, 98, 99, 100] (by decide +kernel) (by decide +kernel)) (goodIn_sub (fun _ h => List.mem_cons_of_mem _ (List.mem_append_right _ h)) (by decide +kernel))
set_option maxRecDepth 20000 in
theorem gX2_mixedWithFable_X2_moralOf : GoodIn wsX2_mixedWithFable (wsV RX2 197 RX2 yX2_moralOf wsX2_moralOf) := goodIn_app (goodIn_of _ (by decide +kernel)) ggX2_mixedWithFable_X2_moralOf
set_option maxRecDepth 20000 in
theorem ggX2_mixedWithFable_X2_mixed : GoodIn wsX2_mixedWithFable wsX2_mixed := goodIn_r _ [17, 18] (by decide +kernel) (by decide +kernel)
set_option maxRecDepth 20000 in
theorem gX2_mixedWithFable_X2_mixed : GoodIn wsX2_mixedWithFable (va_wsS RX2 173 yX2_mixed wsX2_mixed) := goodIn_app (goodIn_of _ (by decide +kernel)) ggX2_mixedWithFable_X2_mixed
set_option maxRecDepth 20000 in
theorem ggX2_mixedWithFable_X2_beastsOf : GoodIn wsX2_mixedWithFable wsX2_beastsOf := goodIn_ca (goodIn_r _ [22, 6, 23, 8, 9, 10, 4, 11, 12, 13, 14, 24, 25, 26, 27, 28, 29, 30, 31, 32, 33, 90, 91, 92, 93, 94, 95, 96, 97, 98, 99, 100] (by decide +kernel) (by decide +kernel)) (goodIn_sub (fun _ h => List.mem_cons_of_mem _ (List.mem_append_right _ h)) (by decide +kernel))
set_option maxRecDepth 20000 in
theorem gX2_mixedWithFable_X2_beastsOf : GoodIn wsX2_mixedWithFable (wsV RX2 200 RX2 yX2_beastsOf wsX2_beastsOf) := goodIn_app (goodIn_of _ (by decide +kernel)) ggX2_mixedWithFable_X2_beastsOf
set_option maxRecDepth 20000 in
theorem ggX2_mixedWithFable_X2_homeOf : GoodIn wsX2_mixedWithFable wsX2_homeOf := goodIn_ca (goodIn_r _ [37, 6, 38, 8, 9, 10, 4, 11, 12, 13, 14, 90, 91, 92, 93, 94, 95, 96, 97, 98, 99, 100] (by decide +kernel) (by decide +kernel)) (goodIn_sub (fun _ h => List.mem_cons_of_mem _ (List.mem_append_right _ h)) (by decide +kernel))
set_option maxRecDepth 20000 in
theorem gX2_mixedWithFable_X2_homeOf : GoodIn wsX2_mixedWithFable (wsV RX2 203 RX2 yX2_homeOf wsX2_homeOf) := goodIn_app (goodIn_of _ (by decide +kernel)) ggX2_mixedWithFable_X2_homeOf
set_option maxRecDepth 20000 in
theorem ggX2_mixedWithFable_X2_parentOf : GoodIn wsX2_mixedWithFable wsX2_parentOf := goodIn_ca (goodIn_r _ [42, 6, 43, 8, 9, 10, 4, 11, 12, 13, 14, 90, 91, 92, 93, 94, 95, 96, 97, 98, 99, 100] (by decide +kernel) (by decide +kernel)) (goodIn_sub (fun _ h => List.mem_cons_of_mem _ (List.mem_append_right _ h)) (by decide +kernel))
set_option maxRecDepth 20000 in
theorem gX2_mixedWithFable_X2_parentOf : GoodIn wsX2_mixedWithFable (wsV RX2 206 RX2 yX2_parentOf wsX2_parentOf) := goodIn_app (goodIn_of _ (by decide +kernel)) ggX2_mixedWithFable_X2_parentOf
set_option maxRecDepth 20000 in
theorem ggX2_mixedWithFable_X2_variantsOf : GoodIn wsX2_mixedWithFable wsX2_variantsOf := goodIn_ca (goodIn_r _ [47, 6, 48, 8, 9, 10, 4, 11, 12, 13, 14, 24, 25, 26, 27, 28, 29, 30, 31, 32, 33, 90, 91, 92, 93, 94, 95, 96, 97, 98, 99, 100] (by decide +kernel) (by decide +kernel)) (goodIn_sub (fun _ h => List.mem_cons_of_mem _ (List.mem_append_right _ h)) (by decide +kernel))
set_option maxRecDepth 20000 in
theorem gX2_mixedWithFable_X2_variantsOf : GoodIn wsX2_mixedWithFable (wsV RX2 209 RX2 yX2_variantsOf wsX2_variantsOf) := goodIn_app (goodIn_of _ (by decide +kernel)) ggX2_mixedWithFable_X2_variantsOf
set_option maxRecDepth 20000 in
theorem ggX2_mixedWithFable_X2_valleysOf : GoodIn wsX2_mixedWithFable wsX2_valleysOf := goodIn_ca (goodIn_r _ [52, 53, 8, 9, 10, 4, 11, 12, 13, 6, 14, 54, 55, 56, 57, 58, 59, 25, 26, 27, 28, 29, 30, 31, 32, 33, 90, 91, 92, 93, 94, 95, 96, 97, 98, 99, 100, 101, 102, 103, 104, 105, 106, 107] (by decide +kernel) (by decide +kernel)) (goodIn_sub (fun _ h => List.mem_cons_of_mem _ (List.mem_append_right _ h)) (by decide +kernel))
set_option maxRecDepth 20000 in
theorem gX2_mixedWithFable_X2_valleysOf : GoodIn wsX2_mixedWithFable (wsV RX2 212 RX2 yX2_valleysOf wsX2_valleysOf) := goodIn_app (goodIn_of _ (by decide +kernel)) ggX2_mixedWithFable_X2_valleysOf
set_option maxRecDepth 20000 in
theorem ggX2_mixedWithFable_X2_hasBeast : GoodIn wsX2_mixedWithFable wsX2_hasBeast := goodIn_ca (goodIn_r _ [63, 6, 23, 8, 9, 10, 4, 11, 12, 13, 14, 64, 65, 66, 67, 68, 69, 90, 91, 92, 93, 94, 95, 96, 97, 98, 99, 100] (by decide +kernel) (by decide +kernel)) (goodIn_sub (fun _ h => List.mem_cons_of_mem _ (List.mem_append_right _ h)) (by decide +kernel))
set_option maxRecDepth 20000 in
theorem gX2_mixedWithFable_X2_hasBeast : GoodIn wsX2_mixedWithFable (wsV RX2 215 RX2 yX2_hasBeast wsX2_hasBeast) := goodIn_app (goodIn_of _ (by decide +kernel)) ggX2_mixedWithFable_X2_hasBeast
set_option maxRecDepth 20000 in
theorem ggX2_mixedWithFable_X2_isTold : GoodIn wsX2_mixedWithFable wsX2_isTold := goodIn_ca (goodIn_r _ [73, 53, 74, 8, 9, 10, 4, 11, 12, 13, 6, 14, 75, 76, 77, 67, 68, 69, 90, 91, 92, 93, 101, 102, 103, 104, 105, 106, 107, 94, 95, 96, 97, 98, 99, 100] (by decide +kernel) (by decide +kernel)) (goodIn_sub (fun _ h => List.mem_cons_of_mem _ (List.mem_append_right _ h)) (by decide +kernel))
set_option maxRecDepth 20000 in
theorem gX2_mixedWithFable_X2_isTold : GoodIn wsX2_mixedWithFable (wsV RX2 218 RX2 yX2_isTold wsX2_isTold) := goodIn_app (goodIn_of _ (by decide +kernel)) ggX2_mixedWithFable_X2_isTold
set_option maxRecDepth 20000 in
theorem ggX2_mixedWithFable_X2_isBanned : GoodIn wsX2_mixedWithFable wsX2_isBanned := goodIn_ca (goodIn_r _ [81, 53, 6, 8, 9, 10, 4, 11, 12, 13, 14, 75, 76, 77, 82, 83, 84, 57, 85, 86, 87, 88, 89, 68, 69, 90, 91, 92, 93, 94, 95, 96, 97, 98, 99, 100, 101, 102, 103, 104, 105, 106, 107] (by decide +kernel) (by decide +kernel)) (goodIn_sub (fun _ h => List.mem_cons_of_mem _ (List.mem_append_right _ h)) (by decide +kernel))
set_option maxRecDepth 20000 in
theorem gX2_mixedWithFable_X2_isBanned : GoodIn wsX2_mixedWithFable (wsV RX2 221 RX2 yX2_isBanned wsX2_isBanned) := goodIn_app (goodIn_of _ (by decide +kernel)) ggX2_mixedWithFable_X2_isBanned
theorem dX2_mixedWithFable_0 : decode cX2_mixedWithFable 0 = .ok (.lload_n 1, 1) := by decide +kernel
theorem dX2_mixedWithFable_1 : decode cX2_mixedWithFable 1 = .ok (.lstore 4, 2) := by decide +kernel
theorem dX2_mixedWithFable_3 : decode cX2_mixedWithFable 3 = .ok (.lload 4, 2) := by decide +kernel
theorem dX2_mixedWithFable_5 : decode cX2_mixedWithFable 5 = .ok (.aload_n 0, 1) := by decide +kernel
theorem dX2_mixedWithFable_6 : decode cX2_mixedWithFable 6 = .ok (.iload_n 3, 1) := by decide +kernel
theorem dX2_mixedWithFable_7 : decode cX2_mixedWithFable 7 = .ok (.invokevirtual 197, 3) := by decide +kernel
theorem dX2_mixedWithFable_10 : decode cX2_mixedWithFable 10 = .ok (.invokestatic 173, 3) := by decide +kernel
theorem dX2_mixedWithFable_13 : decode cX2_mixedWithFable 13 = .ok (.lstore 4, 2) := by decide +kernel
theorem dX2_mixedWithFable_15 : decode cX2_mixedWithFable 15 = .ok (.lload 4, 2) := by decide +kernel
theorem dX2_mixedWithFable_17 : decode cX2_mixedWithFable 17 = .ok (.aload_n 0, 1) := by decide +kernel
theorem dX2_mixedWithFable_18 : decode cX2_mixedWithFable 18 = .ok (.iload_n 3, 1) := by decide +kernel
theorem dX2_mixedWithFable_19 : decode cX2_mixedWithFable 19 = .ok (.invokevirtual 200, 3) := by decide +kernel
theorem dX2_mixedWithFable_22 : decode cX2_mixedWithFable 22 = .ok (.invokestatic 173, 3) := by decide +kernel
theorem dX2_mixedWithFable_25 : decode cX2_mixedWithFable 25 = .ok (.lstore 4, 2) := by decide +kernel
theorem dX2_mixedWithFable_27 : decode cX2_mixedWithFable 27 = .ok (.lload 4, 2) := by decide +kernel
theorem dX2_mixedWithFable_29 : decode cX2_mixedWithFable 29 = .ok (.aload_n 0, 1) := by decide +kernel
theorem dX2_mixedWithFable_30 : decode cX2_mixedWithFable 30 = .ok (.iload_n 3, 1) := by decide +kernel
theorem dX2_mixedWithFable_31 : decode cX2_mixedWithFable 31 = .ok (.invokevirtual 203, 3) := by decide +kernel
theorem dX2_mixedWithFable_34 : decode cX2_mixedWithFable 34 = .ok (.invokestatic 173, 3) := by decide +kernel
theorem dX2_mixedWithFable_37 : decode cX2_mixedWithFable 37 = .ok (.lstore 4, 2) := by decide +kernel
theorem dX2_mixedWithFable_39 : decode cX2_mixedWithFable 39 = .ok (.lload 4, 2) := by decide +kernel
theorem dX2_mixedWithFable_41 : decode cX2_mixedWithFable 41 = .ok (.aload_n 0, 1) := by decide +kernel
theorem dX2_mixedWithFable_42 : decode cX2_mixedWithFable 42 = .ok (.iload_n 3, 1) := by decide +kernel
theorem dX2_mixedWithFable_43 : decode cX2_mixedWithFable 43 = .ok (.invokevirtual 206, 3) := by decide +kernel
theorem dX2_mixedWithFable_46 : decode cX2_mixedWithFable 46 = .ok (.invokestatic 173, 3) := by decide +kernel
theorem dX2_mixedWithFable_49 : decode cX2_mixedWithFable 49 = .ok (.lstore 4, 2) := by decide +kernel
theorem dX2_mixedWithFable_51 : decode cX2_mixedWithFable 51 = .ok (.lload 4, 2) := by decide +kernel
theorem dX2_mixedWithFable_53 : decode cX2_mixedWithFable 53 = .ok (.aload_n 0, 1) := by decide +kernel
theorem dX2_mixedWithFable_54 : decode cX2_mixedWithFable 54 = .ok (.iload_n 3, 1) := by decide +kernel
theorem dX2_mixedWithFable_55 : decode cX2_mixedWithFable 55 = .ok (.invokevirtual 209, 3) := by decide +kernel
theorem dX2_mixedWithFable_58 : decode cX2_mixedWithFable 58 = .ok (.invokestatic 173, 3) := by decide +kernel
theorem dX2_mixedWithFable_61 : decode cX2_mixedWithFable 61 = .ok (.lstore 4, 2) := by decide +kernel
theorem dX2_mixedWithFable_63 : decode cX2_mixedWithFable 63 = .ok (.lload 4, 2) := by decide +kernel
theorem dX2_mixedWithFable_65 : decode cX2_mixedWithFable 65 = .ok (.aload_n 0, 1) := by decide +kernel
theorem dX2_mixedWithFable_66 : decode cX2_mixedWithFable 66 = .ok (.iload_n 3, 1) := by decide +kernel
theorem dX2_mixedWithFable_67 : decode cX2_mixedWithFable 67 = .ok (.invokevirtual 212, 3) := by decide +kernel
theorem dX2_mixedWithFable_70 : decode cX2_mixedWithFable 70 = .ok (.invokestatic 173, 3) := by decide +kernel
theorem dX2_mixedWithFable_73 : decode cX2_mixedWithFable 73 = .ok (.lstore 4, 2) := by decide +kernel
theorem dX2_mixedWithFable_75 : decode cX2_mixedWithFable 75 = .ok (.iconst 0, 1) := by decide +kernel
theorem dX2_mixedWithFable_76 : decode cX2_mixedWithFable 76 = .ok (.istore 6, 2) := by decide +kernel
theorem dX2_mixedWithFable_78 : decode cX2_mixedWithFable 78 = .ok (.iload 6, 2) := by decide +kernel
theorem dX2_mixedWithFable_80 : decode cX2_mixedWithFable 80 = .ok (.bipush 12, 2) := by decide +kernel
theorem dX2_mixedWithFable_82 : decode cX2_mixedWithFable 82 = .ok (.if_icmp .ge 31, 3) := by decide +kernel
theorem dX2_mixedWithFable_85 : decode cX2_mixedWithFable 85 = .ok (.lload 4, 2) := by decide +kernel
theorem dX2_mixedWithFable_87 : decode cX2_mixedWithFable 87 = .ok (.aload_n 0, 1) := by decide +kernel
theorem dX2_mixedWithFable_88 : decode cX2_mixedWithFable 88 = .ok (.iload_n 3, 1) := by decide +kernel
theorem dX2_mixedWithFable_89 : decode cX2_mixedWithFable 89 = .ok (.iload 6, 2) := by decide +kernel
theorem dX2_mixedWithFable_91 : decode cX2_mixedWithFable 91 = .ok (.invokevirtual 215, 3) := by decide +kernel
theorem dX2_mixedWithFable_94 : decode cX2_mixedWithFable 94 = .ok (.ifCond .eq 7, 3) := by decide +kernel
theorem dX2_mixedWithFable_97 : decode cX2_mixedWithFable 97 = .ok (.iconst 1, 1) := by decide +kernel
theorem dX2_mixedWithFable_98 : decode cX2_mixedWithFable 98 = .ok (.goto 4, 3) := by decide +kernel
theorem dX2_mixedWithFable_101 : decode cX2_mixedWithFable 101 = .ok (.iconst 0, 1) := by decide +kernel
theorem dX2_mixedWithFable_102 : decode cX2_mixedWithFable 102 = .ok (.invokestatic 173, 3) := by decide +kernel
theorem dX2_mixedWithFable_105 : decode cX2_mixedWithFable 105 = .ok (.lstore 4, 2) := by decide +kernel
theorem dX2_mixedWithFable_107 : decode cX2_mixedWithFable 107 = .ok (.iinc 6 1, 3) := by decide +kernel
theorem dX2_mixedWithFable_110 : decode cX2_mixedWithFable 110 = .ok (.goto (-32), 3) := by decide +kernel
theorem dX2_mixedWithFable_113 : decode cX2_mixedWithFable 113 = .ok (.iconst 0, 1) := by decide +kernel
theorem dX2_mixedWithFable_114 : decode cX2_mixedWithFable 114 = .ok (.istore 6, 2) := by decide +kernel
theorem dX2_mixedWithFable_116 : decode cX2_mixedWithFable 116 = .ok (.iload 6, 2) := by decide +kernel
theorem dX2_mixedWithFable_118 : decode cX2_mixedWithFable 118 = .ok (.bipush 6, 2) := by decide +kernel
theorem dX2_mixedWithFable_120 : decode cX2_mixedWithFable 120 = .ok (.if_icmp .ge 31, 3) := by decide +kernel
theorem dX2_mixedWithFable_123 : decode cX2_mixedWithFable 123 = .ok (.lload 4, 2) := by decide +kernel
theorem dX2_mixedWithFable_125 : decode cX2_mixedWithFable 125 = .ok (.aload_n 0, 1) := by decide +kernel
theorem dX2_mixedWithFable_126 : decode cX2_mixedWithFable 126 = .ok (.iload_n 3, 1) := by decide +kernel
theorem dX2_mixedWithFable_127 : decode cX2_mixedWithFable 127 = .ok (.iload 6, 2) := by decide +kernel
theorem dX2_mixedWithFable_129 : decode cX2_mixedWithFable 129 = .ok (.invokevirtual 218, 3) := by decide +kernel
theorem dX2_mixedWithFable_132 : decode cX2_mixedWithFable 132 = .ok (.ifCond .eq 7, 3) := by decide +kernel
theorem dX2_mixedWithFable_135 : decode cX2_mixedWithFable 135 = .ok (.iconst 1, 1) := by decide +kernel
theorem dX2_mixedWithFable_136 : decode cX2_mixedWithFable 136 = .ok (.goto 4, 3) := by decide +kernel
theorem dX2_mixedWithFable_139 : decode cX2_mixedWithFable 139 = .ok (.iconst 0, 1) := by decide +kernel
theorem dX2_mixedWithFable_140 : decode cX2_mixedWithFable 140 = .ok (.invokestatic 173, 3) := by decide +kernel
theorem dX2_mixedWithFable_143 : decode cX2_mixedWithFable 143 = .ok (.lstore 4, 2) := by decide +kernel
theorem dX2_mixedWithFable_145 : decode cX2_mixedWithFable 145 = .ok (.iinc 6 1, 3) := by decide +kernel
theorem dX2_mixedWithFable_148 : decode cX2_mixedWithFable 148 = .ok (.goto (-32), 3) := by decide +kernel
theorem dX2_mixedWithFable_151 : decode cX2_mixedWithFable 151 = .ok (.iconst 0, 1) := by decide +kernel
theorem dX2_mixedWithFable_152 : decode cX2_mixedWithFable 152 = .ok (.istore 6, 2) := by decide +kernel
theorem dX2_mixedWithFable_154 : decode cX2_mixedWithFable 154 = .ok (.iload 6, 2) := by decide +kernel
theorem dX2_mixedWithFable_156 : decode cX2_mixedWithFable 156 = .ok (.bipush 6, 2) := by decide +kernel
theorem dX2_mixedWithFable_158 : decode cX2_mixedWithFable 158 = .ok (.if_icmp .ge 31, 3) := by decide +kernel
theorem dX2_mixedWithFable_161 : decode cX2_mixedWithFable 161 = .ok (.lload 4, 2) := by decide +kernel
theorem dX2_mixedWithFable_163 : decode cX2_mixedWithFable 163 = .ok (.aload_n 0, 1) := by decide +kernel
theorem dX2_mixedWithFable_164 : decode cX2_mixedWithFable 164 = .ok (.iload_n 3, 1) := by decide +kernel
theorem dX2_mixedWithFable_165 : decode cX2_mixedWithFable 165 = .ok (.iload 6, 2) := by decide +kernel
theorem dX2_mixedWithFable_167 : decode cX2_mixedWithFable 167 = .ok (.invokevirtual 221, 3) := by decide +kernel
theorem dX2_mixedWithFable_170 : decode cX2_mixedWithFable 170 = .ok (.ifCond .eq 7, 3) := by decide +kernel
theorem dX2_mixedWithFable_173 : decode cX2_mixedWithFable 173 = .ok (.iconst 1, 1) := by decide +kernel
theorem dX2_mixedWithFable_174 : decode cX2_mixedWithFable 174 = .ok (.goto 4, 3) := by decide +kernel
theorem dX2_mixedWithFable_177 : decode cX2_mixedWithFable 177 = .ok (.iconst 0, 1) := by decide +kernel
theorem dX2_mixedWithFable_178 : decode cX2_mixedWithFable 178 = .ok (.invokestatic 173, 3) := by decide +kernel
theorem dX2_mixedWithFable_181 : decode cX2_mixedWithFable 181 = .ok (.lstore 4, 2) := by decide +kernel
theorem dX2_mixedWithFable_183 : decode cX2_mixedWithFable 183 = .ok (.iinc 6 1, 3) := by decide +kernel
theorem dX2_mixedWithFable_186 : decode cX2_mixedWithFable 186 = .ok (.goto (-32), 3) := by decide +kernel
theorem dX2_mixedWithFable_189 : decode cX2_mixedWithFable 189 = .ok (.lload 4, 2) := by decide +kernel
theorem dX2_mixedWithFable_191 : decode cX2_mixedWithFable 191 = .ok (.lreturn, 1) := by decide +kernel
set_option maxRecDepth 20000 in
theorem ggX2_mixedWithValley_X2_toldIn : GoodIn wsX2_mixedWithValley wsX2_toldIn := goodIn_ca (goodIn_r _ [5, 6, 7, 8, 9, 4, 10, 11, 12, 13, 14, 15, 16, 17, 18, 19, 20, 21, 22, 60, 61, 62, 63, 64, 65, 66, 67, 68, 69, 70] (by decide +kernel) (by decide +kernel)) (goodIn_sub (fun _ h => List.mem_cons_of_mem _ (List.mem_append_right _ h)) (by decide +kernel))
set_option maxRecDepth 20000 in
theorem gX2_mixedWithValley_X2_toldIn : GoodIn wsX2_mixedWithValley (wsV RX2 224 RX2 yX2_toldIn wsX2_toldIn) := goodIn_app (goodIn_of _ (by decide +kernel)) ggX2_mixedWithValley_X2_toldIn
set_option maxRecDepth 20000 in
theorem ggX2_mixedWithValley_X2_mixed : GoodIn wsX2_mixedWithValley wsX2_mixed := goodIn_r _ [25, 26] (by decide +kernel) (by decide +kernel)
set_option maxRecDepth 20000 in
theorem gX2_mixedWithValley_X2_mixed : GoodIn wsX2_mixedWithValley (va_wsS RX2 173 yX2_mixed wsX2_mixed) := goodIn_app (goodIn_of _ (by decide +kernel)) ggX2_mixedWithValley_X2_mixed
set_option maxRecDepth 20000 in
theorem ggX2_mixedWithValley_X2_allowedIn : GoodIn wsX2_mixedWithValley wsX2_allowedIn := goodIn_ca (goodIn_r _ [30, 6, 31, 8, 9, 4, 10, 11, 12, 32, 33, 34, 35, 36, 37, 38, 39, 40, 41, 42, 43, 44, 45, 46, 47, 13, 14, 15, 16, 17, 18, 19, 20, 21, 22, 60, 61, 62, 63, 71, 72, 73, 74, 75, 76, 77, 64, 65, 66, 67, 68, 69, 70] (by decide +kernel) (by decide +kernel)) (goodIn_sub (fun _ h => List.mem_cons_of_mem _ (List.mem_append_right _ h)) (by decide +kernel))
set_option maxRecDepth 20000 in
theorem gX2_mixedWithValley_X2_allowedIn : GoodIn wsX2_mixedWithValley (wsV RX2 227 RX2 yX2_allowedIn wsX2_allowedIn) := goodIn_app (goodIn_of _ (by decide +kernel)) ggX2_mixedWithValley_X2_allowedIn
set_option maxRecDepth 20000 in
theorem ggX2_mixedWithValley_X2_bansOf : GoodIn wsX2_mixedWithValley wsX2_bansOf := goodIn_ca (goodIn_r _ [51, 6, 52, 53, 8, 9, 4, 10, 11, 12, 13, 14, 15, 16, 17, 18, 19, 20, 21, 22, 60, 61, 62, 63, 64, 65, 66, 67, 68, 69, 70] (by decide +kernel) (by decide +kernel)) (goodIn_sub (fun _ h => List.mem_cons_of_mem _ (List.mem_append_right _ h)) (by decide +kernel))
set_option maxRecDepth 20000 in
theorem gX2_mixedWithValley_X2_bansOf : GoodIn wsX2_mixedWithValley (wsV RX2 230 RX2 yX2_bansOf wsX2_bansOf) := goodIn_app (goodIn_of _ (by decide +kernel)) ggX2_mixedWithValley_X2_bansOf
set_option maxRecDepth 20000 in
theorem ggX2_mixedWithValley_X2_isOpen : GoodIn wsX2_mixedWithValley wsX2_isOpen := goodIn_ca (goodIn_r _ [57, 6, 58, 8, 9, 4, 10, 11, 12, 59, 46, 47, 60, 61, 62, 63, 64, 65, 66, 67, 68, 69, 70] (by decide +kernel) (by decide +kernel)) (goodIn_sub (fun _ h => List.mem_cons_of_mem _ (List.mem_append_right _ h)) (by decide +kernel))
set_option maxRecDepth 20000 in
theorem gX2_mixedWithValley_X2_isOpen : GoodIn wsX2_mixedWithValley (wsV RX2 233 RX2 yX2_isOpen wsX2_isOpen) := goodIn_app (goodIn_of _ (by decide +kernel)) ggX2_mixedWithValley_X2_isOpen
theorem dX2_mixedWithValley_0 : decode cX2_mixedWithValley 0 = .ok (.lload_n 1, 1) := by decide +kernel
theorem dX2_mixedWithValley_1 : decode cX2_mixedWithValley 1 = .ok (.lstore 4, 2) := by decide +kernel
theorem dX2_mixedWithValley_3 : decode cX2_mixedWithValley 3 = .ok (.lload 4, 2) := by decide +kernel
theorem dX2_mixedWithValley_5 : decode cX2_mixedWithValley 5 = .ok (.aload_n 0, 1) := by decide +kernel
theorem dX2_mixedWithValley_6 : decode cX2_mixedWithValley 6 = .ok (.iload_n 3, 1) := by decide +kernel
theorem dX2_mixedWithValley_7 : decode cX2_mixedWithValley 7 = .ok (.invokevirtual 224, 3) := by decide +kernel
theorem dX2_mixedWithValley_10 : decode cX2_mixedWithValley 10 = .ok (.invokestatic 173, 3) := by decide +kernel
theorem dX2_mixedWithValley_13 : decode cX2_mixedWithValley 13 = .ok (.lstore 4, 2) := by decide +kernel
theorem dX2_mixedWithValley_15 : decode cX2_mixedWithValley 15 = .ok (.lload 4, 2) := by decide +kernel
theorem dX2_mixedWithValley_17 : decode cX2_mixedWithValley 17 = .ok (.aload_n 0, 1) := by decide +kernel
theorem dX2_mixedWithValley_18 : decode cX2_mixedWithValley 18 = .ok (.iload_n 3, 1) := by decide +kernel
theorem dX2_mixedWithValley_19 : decode cX2_mixedWithValley 19 = .ok (.invokevirtual 227, 3) := by decide +kernel
theorem dX2_mixedWithValley_22 : decode cX2_mixedWithValley 22 = .ok (.invokestatic 173, 3) := by decide +kernel
theorem dX2_mixedWithValley_25 : decode cX2_mixedWithValley 25 = .ok (.lstore 4, 2) := by decide +kernel
theorem dX2_mixedWithValley_27 : decode cX2_mixedWithValley 27 = .ok (.lload 4, 2) := by decide +kernel
theorem dX2_mixedWithValley_29 : decode cX2_mixedWithValley 29 = .ok (.aload_n 0, 1) := by decide +kernel
theorem dX2_mixedWithValley_30 : decode cX2_mixedWithValley 30 = .ok (.iload_n 3, 1) := by decide +kernel
theorem dX2_mixedWithValley_31 : decode cX2_mixedWithValley 31 = .ok (.invokevirtual 230, 3) := by decide +kernel
theorem dX2_mixedWithValley_34 : decode cX2_mixedWithValley 34 = .ok (.invokestatic 173, 3) := by decide +kernel
theorem dX2_mixedWithValley_37 : decode cX2_mixedWithValley 37 = .ok (.lstore 4, 2) := by decide +kernel
theorem dX2_mixedWithValley_39 : decode cX2_mixedWithValley 39 = .ok (.iconst 0, 1) := by decide +kernel
theorem dX2_mixedWithValley_40 : decode cX2_mixedWithValley 40 = .ok (.istore 6, 2) := by decide +kernel
theorem dX2_mixedWithValley_42 : decode cX2_mixedWithValley 42 = .ok (.iload 6, 2) := by decide +kernel
theorem dX2_mixedWithValley_44 : decode cX2_mixedWithValley 44 = .ok (.bipush 6, 2) := by decide +kernel
theorem dX2_mixedWithValley_46 : decode cX2_mixedWithValley 46 = .ok (.if_icmp .ge 31, 3) := by decide +kernel
theorem dX2_mixedWithValley_49 : decode cX2_mixedWithValley 49 = .ok (.lload 4, 2) := by decide +kernel
theorem dX2_mixedWithValley_51 : decode cX2_mixedWithValley 51 = .ok (.aload_n 0, 1) := by decide +kernel
theorem dX2_mixedWithValley_52 : decode cX2_mixedWithValley 52 = .ok (.iload_n 3, 1) := by decide +kernel
theorem dX2_mixedWithValley_53 : decode cX2_mixedWithValley 53 = .ok (.iload 6, 2) := by decide +kernel
theorem dX2_mixedWithValley_55 : decode cX2_mixedWithValley 55 = .ok (.invokevirtual 233, 3) := by decide +kernel
theorem dX2_mixedWithValley_58 : decode cX2_mixedWithValley 58 = .ok (.ifCond .eq 7, 3) := by decide +kernel
theorem dX2_mixedWithValley_61 : decode cX2_mixedWithValley 61 = .ok (.iconst 1, 1) := by decide +kernel
theorem dX2_mixedWithValley_62 : decode cX2_mixedWithValley 62 = .ok (.goto 4, 3) := by decide +kernel
theorem dX2_mixedWithValley_65 : decode cX2_mixedWithValley 65 = .ok (.iconst 0, 1) := by decide +kernel
theorem dX2_mixedWithValley_66 : decode cX2_mixedWithValley 66 = .ok (.invokestatic 173, 3) := by decide +kernel
theorem dX2_mixedWithValley_69 : decode cX2_mixedWithValley 69 = .ok (.lstore 4, 2) := by decide +kernel
theorem dX2_mixedWithValley_71 : decode cX2_mixedWithValley 71 = .ok (.iinc 6 1, 3) := by decide +kernel
theorem dX2_mixedWithValley_74 : decode cX2_mixedWithValley 74 = .ok (.goto (-32), 3) := by decide +kernel
theorem dX2_mixedWithValley_77 : decode cX2_mixedWithValley 77 = .ok (.lload 4, 2) := by decide +kernel
theorem dX2_mixedWithValley_79 : decode cX2_mixedWithValley 79 = .ok (.lreturn, 1) := by decide +kernel
theorem dX2_mixed_0 : decode cX2_mixed 0 = .ok (.lload_n 0, 1) := by decide +kernel
theorem dX2_mixed_1 : decode cX2_mixed 1 = .ok (.ldc2_w 236, 3) := by decide +kernel
theorem dX2_mixed_4 : decode cX2_mixed 4 = .ok (.lmul, 1) := by decide +kernel
theorem dX2_mixed_5 : decode cX2_mixed 5 = .ok (.iload_n 2, 1) := by decide +kernel
theorem dX2_mixed_6 : decode cX2_mixed 6 = .ok (.i2l, 1) := by decide +kernel
theorem dX2_mixed_7 : decode cX2_mixed 7 = .ok (.ladd, 1) := by decide +kernel
theorem dX2_mixed_8 : decode cX2_mixed 8 = .ok (.lreturn, 1) := by decide +kernel
set_option maxRecDepth 20000 in
theorem ggX2_tellingsWithPass_X1_become : GoodIn wsX2_tellingsWithPass wsX1_become := goodIn_r _ [7, 8, 9, 10, 11, 12, 86, 87, 88, 89, 90, 91, 92] (by decide +kernel) (by decide +kernel)
set_option maxRecDepth 20000 in
theorem gX2_tellingsWithPass_X1_become : GoodIn wsX2_tellingsWithPass (wsV RX2 157 RX1 yX1_become wsX1_become) := goodIn_app (goodIn_of _ (by decide +kernel)) ggX2_tellingsWithPass_X1_become
set_option maxRecDepth 20000 in
theorem ggX2_tellingsWithPass_X1_turnWay : GoodIn wsX2_tellingsWithPass wsX1_turnWay := goodIn_r _ [16, 8, 17, 18, 19, 86, 87, 88, 89, 90, 91, 92] (by decide +kernel) (by decide +kernel)
set_option maxRecDepth 20000 in
theorem gX2_tellingsWithPass_X1_turnWay : GoodIn wsX2_tellingsWithPass (wsV RX2 90 RX1 yX1_turnWay wsX1_turnWay) := goodIn_app (goodIn_of _ (by decide +kernel)) ggX2_tellingsWithPass_X1_turnWay
set_option maxRecDepth 20000 in
theorem ggX2_tellingsWithPass_X2_tellingsOfTrial : GoodIn wsX2_tellingsWithPass wsX2_tellingsOfTrial := goodIn_r _ [23, 1, 24, 25, 26, 27, 6, 28, 29, 30, 31, 32, 33, 34, 35, 36, 37, 38, 9, 39, 10, 40, 41, 18, 42, 43, 44, 45, 46, 47, 11, 12, 48, 49, 50, 51, 52, 53, 54, 55, 56, 57, 58, 59, 60, 61, 62, 63, 64, 8, 65, 66, 67, 68, 69, 70, 71, 72, 73, 74, 75, 76, 77, 78, 79, 80, 81, 82, 83, 84, 85, 86, 87, 88, 89, 90, 91, 92, 93, 94, 95, 96, 97, 98, 99] (by decide +kernel) (by decide +kernel)
set_option maxRecDepth 20000 in
theorem gX2_tellingsWithPass_X2_tellingsOfTrial : GoodIn wsX2_tellingsWithPass (wsV RX2 161 RX2 yX2_tellingsOfTrial wsX2_tellingsOfTrial) := goodIn_app (goodIn_of _ (by decide +kernel)) ggX2_tellingsWithPass_X2_tellingsOfTrial
theorem dX2_tellingsWithPass_0 : decode cX2_tellingsWithPass 0 = .ok (.aload_n 0, 1) := by decide +kernel
theorem dX2_tellingsWithPass_1 : decode cX2_tellingsWithPass 1 = .ok (.getfield 23, 3) := by decide +kernel
theorem dX2_tellingsWithPass_4 : decode cX2_tellingsWithPass 4 = .ok (.aload_n 0, 1) := by decide +kernel
theorem dX2_tellingsWithPass_5 : decode cX2_tellingsWithPass 5 = .ok (.getfield 19, 3) := by decide +kernel
theorem dX2_tellingsWithPass_8 : decode cX2_tellingsWithPass 8 = .ok (.invokevirtual 157, 3) := by decide +kernel
theorem dX2_tellingsWithPass_11 : decode cX2_tellingsWithPass 11 = .ok (.aload_n 0, 1) := by decide +kernel
theorem dX2_tellingsWithPass_12 : decode cX2_tellingsWithPass 12 = .ok (.getfield 23, 3) := by decide +kernel
theorem dX2_tellingsWithPass_15 : decode cX2_tellingsWithPass 15 = .ok (.iload_n 1, 1) := by decide +kernel
theorem dX2_tellingsWithPass_16 : decode cX2_tellingsWithPass 16 = .ok (.iload_n 2, 1) := by decide +kernel
theorem dX2_tellingsWithPass_17 : decode cX2_tellingsWithPass 17 = .ok (.invokevirtual 90, 3) := by decide +kernel
theorem dX2_tellingsWithPass_20 : decode cX2_tellingsWithPass 20 = .ok (.aload_n 0, 1) := by decide +kernel
theorem dX2_tellingsWithPass_21 : decode cX2_tellingsWithPass 21 = .ok (.iload_n 3, 1) := by decide +kernel
theorem dX2_tellingsWithPass_22 : decode cX2_tellingsWithPass 22 = .ok (.invokevirtual 161, 3) := by decide +kernel
theorem dX2_tellingsWithPass_25 : decode cX2_tellingsWithPass 25 = .ok (.ireturn, 1) := by decide +kernel
set_option maxRecDepth 20000 in
theorem ggX2_tellingsOfTrial_X1_live : GoodIn wsX2_tellingsOfTrial wsX1_live := goodIn_r _ [7, 8, 9, 10, 11, 6, 12, 13, 14, 15, 16, 17, 18, 19, 20, 21, 22, 23, 24, 25, 26, 27, 28, 29, 30, 31, 32, 33, 34, 35, 36, 37, 38, 39, 40, 41, 42, 43, 44, 45, 46, 47, 48, 49, 50, 51, 52, 53, 54, 55, 56, 71, 72, 73, 74, 75, 76, 77, 78, 79, 80, 81, 82, 83, 84] (by decide +kernel) (by decide +kernel)
set_option maxRecDepth 20000 in
theorem gX2_tellingsOfTrial_X1_live : GoodIn wsX2_tellingsOfTrial (wsV RX2 122 RX1 yX1_live wsX1_live) := goodIn_app (goodIn_of _ (by decide +kernel)) ggX2_tellingsOfTrial_X1_live
set_option maxRecDepth 20000 in
theorem ggX2_tellingsOfTrial_X0_all : GoodIn wsX2_tellingsOfTrial wsX0_all := goodIn_r _ [61, 62, 78, 79, 80, 81, 82, 83, 84] (by decide +kernel) (by decide +kernel)
set_option maxRecDepth 20000 in
theorem gX2_tellingsOfTrial_X0_all : GoodIn wsX2_tellingsOfTrial (wsV RX2 126 RX0 yX0_all wsX0_all) := goodIn_app (goodIn_of _ (by decide +kernel)) ggX2_tellingsOfTrial_X0_all
set_option maxRecDepth 20000 in
theorem ggX2_tellingsOfTrial_X1_count : GoodIn wsX2_tellingsOfTrial wsX1_count := goodIn_r _ [66, 30, 32, 23, 33, 34, 35, 36, 37, 38, 39, 40, 71, 72, 73, 74, 75, 76, 77] (by decide +kernel) (by decide +kernel)
set_option maxRecDepth 20000 in
theorem gX2_tellingsOfTrial_X1_count : GoodIn wsX2_tellingsOfTrial (wsV RX2 114 RX1 yX1_count wsX1_count) := goodIn_app (goodIn_of _ (by decide +kernel)) ggX2_tellingsOfTrial_X1_count
theorem dX2_tellingsOfTrial_0 : decode cX2_tellingsOfTrial 0 = .ok (.aload_n 0, 1) := by decide +kernel
theorem dX2_tellingsOfTrial_1 : decode cX2_tellingsOfTrial 1 = .ok (.getfield 23, 3) := by decide +kernel
theorem dX2_tellingsOfTrial_4 : decode cX2_tellingsOfTrial 4 = .ok (.aload_n 0, 1) := by decide +kernel
theorem dX2_tellingsOfTrial_5 : decode cX2_tellingsOfTrial 5 = .ok (.getfield 10, 3) := by decide +kernel
theorem dX2_tellingsOfTrial_8 : decode cX2_tellingsOfTrial 8 = .ok (.iload_n 1, 1) := by decide +kernel
theorem dX2_tellingsOfTrial_9 : decode cX2_tellingsOfTrial 9 = .ok (.invokevirtual 122, 3) := by decide +kernel
theorem dX2_tellingsOfTrial_12 : decode cX2_tellingsOfTrial 12 = .ok (.aload_n 0, 1) := by decide +kernel
theorem dX2_tellingsOfTrial_13 : decode cX2_tellingsOfTrial 13 = .ok (.getfield 23, 3) := by decide +kernel
theorem dX2_tellingsOfTrial_16 : decode cX2_tellingsOfTrial 16 = .ok (.aload_n 0, 1) := by decide +kernel
theorem dX2_tellingsOfTrial_17 : decode cX2_tellingsOfTrial 17 = .ok (.getfield 10, 3) := by decide +kernel
theorem dX2_tellingsOfTrial_20 : decode cX2_tellingsOfTrial 20 = .ok (.invokevirtual 126, 3) := by decide +kernel
theorem dX2_tellingsOfTrial_23 : decode cX2_tellingsOfTrial 23 = .ok (.invokevirtual 114, 3) := by decide +kernel
theorem dX2_tellingsOfTrial_26 : decode cX2_tellingsOfTrial 26 = .ok (.ireturn, 1) := by decide +kernel
theorem dX2_needFable_0 : decode cX2_needFable 0 = .ok (.iload_n 1, 1) := by decide +kernel
theorem dX2_needFable_1 : decode cX2_needFable 1 = .ok (.ifCond .lt 14, 3) := by decide +kernel
theorem dX2_needFable_4 : decode cX2_needFable 4 = .ok (.iload_n 1, 1) := by decide +kernel
theorem dX2_needFable_5 : decode cX2_needFable 5 = .ok (.aload_n 0, 1) := by decide +kernel
theorem dX2_needFable_6 : decode cX2_needFable 6 = .ok (.getfield 10, 3) := by decide +kernel
theorem dX2_needFable_9 : decode cX2_needFable 9 = .ok (.getfield 146, 3) := by decide +kernel
theorem dX2_needFable_12 : decode cX2_needFable 12 = .ok (.if_icmp .lt 13, 3) := by decide +kernel
theorem dX2_needFable_15 : decode cX2_needFable 15 = .ok (.new 238, 3) := by decide +kernel
theorem dX2_needFable_18 : decode cX2_needFable 18 = .ok (.dup, 1) := by decide +kernel
theorem dX2_needFable_19 : decode cX2_needFable 19 = .ok (.ldc 240, 2) := by decide +kernel
theorem dX2_needFable_21 : decode cX2_needFable 21 = .ok (.invokespecial 242, 3) := by decide +kernel
theorem dX2_needFable_24 : decode cX2_needFable 24 = .ok (.athrow, 1) := by decide +kernel
theorem dX2_needFable_25 : decode cX2_needFable 25 = .ok (.return_, 1) := by decide +kernel
theorem dX2_needFreePage_0 : decode cX2_needFreePage 0 = .ok (.aload_n 0, 1) := by decide +kernel
theorem dX2_needFreePage_1 : decode cX2_needFreePage 1 = .ok (.getfield 10, 3) := by decide +kernel
theorem dX2_needFreePage_4 : decode cX2_needFreePage 4 = .ok (.getfield 146, 3) := by decide +kernel
theorem dX2_needFreePage_7 : decode cX2_needFreePage 7 = .ok (.bipush 20, 2) := by decide +kernel
theorem dX2_needFreePage_9 : decode cX2_needFreePage 9 = .ok (.if_icmp .lt 13, 3) := by decide +kernel
theorem dX2_needFreePage_12 : decode cX2_needFreePage 12 = .ok (.new 58, 3) := by decide +kernel
theorem dX2_needFreePage_15 : decode cX2_needFreePage 15 = .ok (.dup, 1) := by decide +kernel
theorem dX2_needFreePage_16 : decode cX2_needFreePage 16 = .ok (.ldc 243, 2) := by decide +kernel
theorem dX2_needFreePage_18 : decode cX2_needFreePage 18 = .ok (.invokespecial 62, 3) := by decide +kernel
theorem dX2_needFreePage_21 : decode cX2_needFreePage 21 = .ok (.athrow, 1) := by decide +kernel
theorem dX2_needFreePage_22 : decode cX2_needFreePage 22 = .ok (.return_, 1) := by decide +kernel
theorem dX2_needMoral_0 : decode cX2_needMoral 0 = .ok (.iload_n 0, 1) := by decide +kernel
theorem dX2_needMoral_1 : decode cX2_needMoral 1 = .ok (.ifCond .lt 9, 3) := by decide +kernel
theorem dX2_needMoral_4 : decode cX2_needMoral 4 = .ok (.iload_n 0, 1) := by decide +kernel
theorem dX2_needMoral_5 : decode cX2_needMoral 5 = .ok (.bipush 10, 2) := by decide +kernel
theorem dX2_needMoral_7 : decode cX2_needMoral 7 = .ok (.if_icmp .lt 13, 3) := by decide +kernel
theorem dX2_needMoral_10 : decode cX2_needMoral 10 = .ok (.new 238, 3) := by decide +kernel
theorem dX2_needMoral_13 : decode cX2_needMoral 13 = .ok (.dup, 1) := by decide +kernel
theorem dX2_needMoral_14 : decode cX2_needMoral 14 = .ok (.ldc 245, 2) := by decide +kernel
theorem dX2_needMoral_16 : decode cX2_needMoral 16 = .ok (.invokespecial 242, 3) := by decide +kernel
theorem dX2_needMoral_19 : decode cX2_needMoral 19 = .ok (.athrow, 1) := by decide +kernel
theorem dX2_needMoral_20 : decode cX2_needMoral 20 = .ok (.return_, 1) := by decide +kernel
theorem dX2_needBeast_0 : decode cX2_needBeast 0 = .ok (.iload_n 0, 1) := by decide +kernel
theorem dX2_needBeast_1 : decode cX2_needBeast 1 = .ok (.ifCond .lt 9, 3) := by decide +kernel
theorem dX2_needBeast_4 : decode cX2_needBeast 4 = .ok (.iload_n 0, 1) := by decide +kernel
theorem dX2_needBeast_5 : decode cX2_needBeast 5 = .ok (.bipush 12, 2) := by decide +kernel
theorem dX2_needBeast_7 : decode cX2_needBeast 7 = .ok (.if_icmp .lt 13, 3) := by decide +kernel
theorem dX2_needBeast_10 : decode cX2_needBeast 10 = .ok (.new 238, 3) := by decide +kernel
theorem dX2_needBeast_13 : decode cX2_needBeast 13 = .ok (.dup, 1) := by decide +kernel
theorem dX2_needBeast_14 : decode cX2_needBeast 14 = .ok (.ldc 247, 2) := by decide +kernel
theorem dX2_needBeast_16 : decode cX2_needBeast 16 = .ok (.invokespecial 242, 3) := by decide +kernel
theorem dX2_needBeast_19 : decode cX2_needBeast 19 = .ok (.athrow, 1) := by decide +kernel
theorem dX2_needBeast_20 : decode cX2_needBeast 20 = .ok (.return_, 1) := by decide +kernel
theorem dX2_needValley_0 : decode cX2_needValley 0 = .ok (.iload_n 0, 1) := by decide +kernel
theorem dX2_needValley_1 : decode cX2_needValley 1 = .ok (.ifCond .lt 9, 3) := by decide +kernel
theorem dX2_needValley_4 : decode cX2_needValley 4 = .ok (.iload_n 0, 1) := by decide +kernel
theorem dX2_needValley_5 : decode cX2_needValley 5 = .ok (.bipush 6, 2) := by decide +kernel
theorem dX2_needValley_7 : decode cX2_needValley 7 = .ok (.if_icmp .lt 13, 3) := by decide +kernel
theorem dX2_needValley_10 : decode cX2_needValley 10 = .ok (.new 238, 3) := by decide +kernel
theorem dX2_needValley_13 : decode cX2_needValley 13 = .ok (.dup, 1) := by decide +kernel
theorem dX2_needValley_14 : decode cX2_needValley 14 = .ok (.ldc 249, 2) := by decide +kernel
theorem dX2_needValley_16 : decode cX2_needValley 16 = .ok (.invokespecial 242, 3) := by decide +kernel
theorem dX2_needValley_19 : decode cX2_needValley 19 = .ok (.athrow, 1) := by decide +kernel
theorem dX2_needValley_20 : decode cX2_needValley 20 = .ok (.return_, 1) := by decide +kernel
theorem dX2_needSeasons_0 : decode cX2_needSeasons 0 = .ok (.iload_n 0, 1) := by decide +kernel
theorem dX2_needSeasons_1 : decode cX2_needSeasons 1 = .ok (.iconst 1, 1) := by decide +kernel
theorem dX2_needSeasons_2 : decode cX2_needSeasons 2 = .ok (.if_icmp .lt 8, 3) := by decide +kernel
theorem dX2_needSeasons_5 : decode cX2_needSeasons 5 = .ok (.iload_n 0, 1) := by decide +kernel
theorem dX2_needSeasons_6 : decode cX2_needSeasons 6 = .ok (.iload_n 1, 1) := by decide +kernel
theorem dX2_needSeasons_7 : decode cX2_needSeasons 7 = .ok (.if_icmp .le 13, 3) := by decide +kernel
theorem dX2_needSeasons_10 : decode cX2_needSeasons 10 = .ok (.new 85, 3) := by decide +kernel
theorem dX2_needSeasons_13 : decode cX2_needSeasons 13 = .ok (.dup, 1) := by decide +kernel
theorem dX2_needSeasons_14 : decode cX2_needSeasons 14 = .ok (.ldc 251, 2) := by decide +kernel
theorem dX2_needSeasons_16 : decode cX2_needSeasons 16 = .ok (.invokespecial 89, 3) := by decide +kernel
theorem dX2_needSeasons_19 : decode cX2_needSeasons 19 = .ok (.athrow, 1) := by decide +kernel
theorem dX2_needSeasons_20 : decode cX2_needSeasons 20 = .ok (.return_, 1) := by decide +kernel
theorem dX2_has_0 : decode cX2_has 0 = .ok (.iload_n 0, 1) := by decide +kernel
theorem dX2_has_1 : decode cX2_has 1 = .ok (.iload_n 1, 1) := by decide +kernel
theorem dX2_has_2 : decode cX2_has 2 = .ok (.ishr, 1) := by decide +kernel
theorem dX2_has_3 : decode cX2_has 3 = .ok (.iconst 1, 1) := by decide +kernel
theorem dX2_has_4 : decode cX2_has 4 = .ok (.iand, 1) := by decide +kernel
theorem dX2_has_5 : decode cX2_has 5 = .ok (.ifCond .eq 7, 3) := by decide +kernel
theorem dX2_has_8 : decode cX2_has 8 = .ok (.iconst 1, 1) := by decide +kernel
theorem dX2_has_9 : decode cX2_has 9 = .ok (.goto 4, 3) := by decide +kernel
theorem dX2_has_12 : decode cX2_has 12 = .ok (.iconst 0, 1) := by decide +kernel
theorem dX2_has_13 : decode cX2_has 13 = .ok (.ireturn, 1) := by decide +kernel
theorem dX2_turned_0 : decode cX2_turned 0 = .ok (.iload_n 0, 1) := by decide +kernel
theorem dX2_turned_1 : decode cX2_turned 1 = .ok (.iconst 1, 1) := by decide +kernel
theorem dX2_turned_2 : decode cX2_turned 2 = .ok (.iload_n 1, 1) := by decide +kernel
theorem dX2_turned_3 : decode cX2_turned 3 = .ok (.ishl, 1) := by decide +kernel
theorem dX2_turned_4 : decode cX2_turned 4 = .ok (.ixor, 1) := by decide +kernel
theorem dX2_turned_5 : decode cX2_turned 5 = .ok (.ireturn, 1) := by decide +kernel
set_option maxRecDepth 20000 in
theorem ggX2_size_J6_bitCount_0f7a4 : GoodIn wsX2_size wsJ6_bitCount_0f7a4 := goodIn_r _ [4, 5, 6, 7] (by decide +kernel) (by decide +kernel)
set_option maxRecDepth 20000 in
theorem gX2_size_J6_bitCount_0f7a4 : GoodIn wsX2_size (va_wsS RX2 253 yJ6_bitCount_0f7a4 wsJ6_bitCount_0f7a4) := goodIn_app (goodIn_of _ (by decide +kernel)) ggX2_size_J6_bitCount_0f7a4
theorem dX2_size_0 : decode cX2_size 0 = .ok (.iload_n 0, 1) := by decide +kernel
theorem dX2_size_1 : decode cX2_size 1 = .ok (.invokestatic 253, 3) := by decide +kernel
theorem dX2_size_4 : decode cX2_size 4 = .ok (.ireturn, 1) := by decide +kernel
set_option maxRecDepth 20000 in
theorem ggX2_greatest_X2_has : GoodIn wsX2_greatest wsX2_has := goodIn_r _ [4] (by decide +kernel) (by decide +kernel)
set_option maxRecDepth 20000 in
theorem gX2_greatest_X2_has : GoodIn wsX2_greatest (va_wsS RX2 54 yX2_has wsX2_has) := goodIn_app (goodIn_of _ (by decide +kernel)) ggX2_greatest_X2_has
theorem dX2_greatest_0 : decode cX2_greatest 0 = .ok (.bipush 19, 2) := by decide +kernel
theorem dX2_greatest_2 : decode cX2_greatest 2 = .ok (.istore_n 1, 1) := by decide +kernel
theorem dX2_greatest_3 : decode cX2_greatest 3 = .ok (.iload_n 1, 1) := by decide +kernel
theorem dX2_greatest_4 : decode cX2_greatest 4 = .ok (.ifCond .lt 19, 3) := by decide +kernel
theorem dX2_greatest_7 : decode cX2_greatest 7 = .ok (.iload_n 0, 1) := by decide +kernel
theorem dX2_greatest_8 : decode cX2_greatest 8 = .ok (.iload_n 1, 1) := by decide +kernel
theorem dX2_greatest_9 : decode cX2_greatest 9 = .ok (.invokestatic 54, 3) := by decide +kernel
theorem dX2_greatest_12 : decode cX2_greatest 12 = .ok (.ifCond .eq 5, 3) := by decide +kernel
theorem dX2_greatest_15 : decode cX2_greatest 15 = .ok (.iload_n 1, 1) := by decide +kernel
theorem dX2_greatest_16 : decode cX2_greatest 16 = .ok (.ireturn, 1) := by decide +kernel
theorem dX2_greatest_17 : decode cX2_greatest 17 = .ok (.iinc 1 (-1), 3) := by decide +kernel
theorem dX2_greatest_20 : decode cX2_greatest 20 = .ok (.goto (-17), 3) := by decide +kernel
theorem dX2_greatest_23 : decode cX2_greatest 23 = .ok (.iconst (-1), 1) := by decide +kernel
theorem dX2_greatest_24 : decode cX2_greatest 24 = .ok (.ireturn, 1) := by decide +kernel
theorem dX2_smallestAlone_0 : decode cX2_smallestAlone 0 = .ok (.iload_n 0, 1) := by decide +kernel
theorem dX2_smallestAlone_1 : decode cX2_smallestAlone 1 = .ok (.iload_n 0, 1) := by decide +kernel
theorem dX2_smallestAlone_2 : decode cX2_smallestAlone 2 = .ok (.ineg, 1) := by decide +kernel
theorem dX2_smallestAlone_3 : decode cX2_smallestAlone 3 = .ok (.iand, 1) := by decide +kernel
theorem dX2_smallestAlone_4 : decode cX2_smallestAlone 4 = .ok (.ireturn, 1) := by decide +kernel
