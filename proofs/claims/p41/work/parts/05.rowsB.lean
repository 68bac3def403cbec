theorem dX2_tell_0 : decode cX2_tell 0 = .ok (.aload_n 0, 1) := by decide +kernel
theorem dX2_tell_1 : decode cX2_tell 1 = .ok (.iload_n 1, 1) := by decide +kernel
theorem dX2_tell_2 : decode cX2_tell 2 = .ok (.invokevirtual 47, 3) := by decide +kernel
theorem dX2_tell_5 : decode cX2_tell 5 = .ok (.iload_n 2, 1) := by decide +kernel
theorem dX2_tell_6 : decode cX2_tell 6 = .ok (.invokestatic 37, 3) := by decide +kernel
theorem dX2_tell_9 : decode cX2_tell 9 = .ok (.aload_n 0, 1) := by decide +kernel
theorem dX2_tell_10 : decode cX2_tell 10 = .ok (.getfield 19, 3) := by decide +kernel
theorem dX2_tell_13 : decode cX2_tell 13 = .ok (.getfield 103, 3) := by decide +kernel
theorem dX2_tell_16 : decode cX2_tell 16 = .ok (.iload_n 2, 1) := by decide +kernel
theorem dX2_tell_17 : decode cX2_tell 17 = .ok (.iaload, 1) := by decide +kernel
theorem dX2_tell_18 : decode cX2_tell 18 = .ok (.iload_n 1, 1) := by decide +kernel
theorem dX2_tell_19 : decode cX2_tell 19 = .ok (.invokestatic 54, 3) := by decide +kernel
theorem dX2_tell_22 : decode cX2_tell 22 = .ok (.ifCond .eq 13, 3) := by decide +kernel
theorem dX2_tell_25 : decode cX2_tell 25 = .ok (.new 58, 3) := by decide +kernel
theorem dX2_tell_28 : decode cX2_tell 28 = .ok (.dup, 1) := by decide +kernel
theorem dX2_tell_29 : decode cX2_tell 29 = .ok (.ldc 106, 2) := by decide +kernel
theorem dX2_tell_31 : decode cX2_tell 31 = .ok (.invokespecial 62, 3) := by decide +kernel
theorem dX2_tell_34 : decode cX2_tell 34 = .ok (.athrow, 1) := by decide +kernel
theorem dX2_tell_35 : decode cX2_tell 35 = .ok (.aload_n 0, 1) := by decide +kernel
theorem dX2_tell_36 : decode cX2_tell 36 = .ok (.getfield 19, 3) := by decide +kernel
theorem dX2_tell_39 : decode cX2_tell 39 = .ok (.aload_n 0, 1) := by decide +kernel
theorem dX2_tell_40 : decode cX2_tell 40 = .ok (.getfield 10, 3) := by decide +kernel
theorem dX2_tell_43 : decode cX2_tell 43 = .ok (.iload_n 1, 1) := by decide +kernel
theorem dX2_tell_44 : decode cX2_tell 44 = .ok (.iload_n 2, 1) := by decide +kernel
theorem dX2_tell_45 : decode cX2_tell 45 = .ok (.invokevirtual 108, 3) := by decide +kernel
theorem dX2_tell_48 : decode cX2_tell 48 = .ok (.ifCond .eq 13, 3) := by decide +kernel
theorem dX2_tell_51 : decode cX2_tell 51 = .ok (.new 58, 3) := by decide +kernel
theorem dX2_tell_54 : decode cX2_tell 54 = .ok (.dup, 1) := by decide +kernel
theorem dX2_tell_55 : decode cX2_tell 55 = .ok (.ldc 112, 2) := by decide +kernel
theorem dX2_tell_57 : decode cX2_tell 57 = .ok (.invokespecial 62, 3) := by decide +kernel
theorem dX2_tell_60 : decode cX2_tell 60 = .ok (.athrow, 1) := by decide +kernel
theorem dX2_tell_61 : decode cX2_tell 61 = .ok (.aload_n 0, 1) := by decide +kernel
theorem dX2_tell_62 : decode cX2_tell 62 = .ok (.getfield 19, 3) := by decide +kernel
theorem dX2_tell_65 : decode cX2_tell 65 = .ok (.getfield 103, 3) := by decide +kernel
theorem dX2_tell_68 : decode cX2_tell 68 = .ok (.iload_n 2, 1) := by decide +kernel
theorem dX2_tell_69 : decode cX2_tell 69 = .ok (.dup2, 1) := by decide +kernel
theorem dX2_tell_70 : decode cX2_tell 70 = .ok (.iaload, 1) := by decide +kernel
theorem dX2_tell_71 : decode cX2_tell 71 = .ok (.iconst 1, 1) := by decide +kernel
theorem dX2_tell_72 : decode cX2_tell 72 = .ok (.iload_n 1, 1) := by decide +kernel
theorem dX2_tell_73 : decode cX2_tell 73 = .ok (.ishl, 1) := by decide +kernel
theorem dX2_tell_74 : decode cX2_tell 74 = .ok (.ior, 1) := by decide +kernel
theorem dX2_tell_75 : decode cX2_tell 75 = .ok (.iastore, 1) := by decide +kernel
theorem dX2_tell_76 : decode cX2_tell 76 = .ok (.aload_n 0, 1) := by decide +kernel
theorem dX2_tell_77 : decode cX2_tell 77 = .ok (.getfield 19, 3) := by decide +kernel
theorem dX2_tell_80 : decode cX2_tell 80 = .ok (.iconst 1, 1) := by decide +kernel
theorem dX2_tell_81 : decode cX2_tell 81 = .ok (.iload_n 1, 1) := by decide +kernel
theorem dX2_tell_82 : decode cX2_tell 82 = .ok (.ishl, 1) := by decide +kernel
theorem dX2_tell_83 : decode cX2_tell 83 = .ok (.invokevirtual 114, 3) := by decide +kernel
theorem dX2_tell_86 : decode cX2_tell 86 = .ok (.ireturn, 1) := by decide +kernel
set_option maxRecDepth 20000 in
theorem ggX2_forget_X2_needFable : GoodIn wsX2_forget wsX2_needFable := goodIn_ca (goodIn_r _ [9, 10, 11, 12, 13, 38, 39, 40, 41, 49, 50, 51, 52, 53, 54, 55] (by decide +kernel) (by decide +kernel)) (goodIn_sub (fun _ h => List.mem_cons_of_mem _ (List.mem_append_right _ h)) (by decide +kernel))
set_option maxRecDepth 20000 in
theorem gX2_forget_X2_needFable : GoodIn wsX2_forget (wsV RX2 47 RX2 yX2_needFable wsX2_needFable) := goodIn_app (goodIn_of _ (by decide +kernel)) ggX2_forget_X2_needFable
set_option maxRecDepth 20000 in
theorem ggX2_forget_X2_needValley : GoodIn wsX2_forget wsX2_needValley := goodIn_ca (goodIn_r _ [16, 10, 11] (by decide +kernel) (by decide +kernel)) (goodIn_sub (fun _ h => List.mem_cons_of_mem _ (List.mem_append_right _ h)) (by decide +kernel))
set_option maxRecDepth 20000 in
theorem gX2_forget_X2_needValley : GoodIn wsX2_forget (va_wsS RX2 37 yX2_needValley wsX2_needValley) := goodIn_app (goodIn_of _ (by decide +kernel)) ggX2_forget_X2_needValley
set_option maxRecDepth 20000 in
theorem ggX2_forget_X2_has : GoodIn wsX2_forget wsX2_has := goodIn_r _ [19] (by decide +kernel) (by decide +kernel)
set_option maxRecDepth 20000 in
theorem gX2_forget_X2_has : GoodIn wsX2_forget (va_wsS RX2 54 yX2_has wsX2_has) := goodIn_app (goodIn_of _ (by decide +kernel)) ggX2_forget_X2_has
set_option maxRecDepth 20000 in
theorem ggX2_forget_X2_turned : GoodIn wsX2_forget wsX2_turned := goodIn_r _ [22] (by decide +kernel) (by decide +kernel)
set_option maxRecDepth 20000 in
theorem gX2_forget_X2_turned : GoodIn wsX2_forget (va_wsS RX2 81 yX2_turned wsX2_turned) := goodIn_app (goodIn_of _ (by decide +kernel)) ggX2_forget_X2_turned
set_option maxRecDepth 20000 in
theorem ggX2_forget_X1_count : GoodIn wsX2_forget wsX1_count := goodIn_r _ [27, 28, 29, 8, 30, 31, 32, 33, 34, 35, 36, 37, 42, 43, 44, 45, 46, 47, 48] (by decide +kernel) (by decide +kernel)
set_option maxRecDepth 20000 in
theorem gX2_forget_X1_count : GoodIn wsX2_forget (wsV RX2 114 RX1 yX1_count wsX1_count) := goodIn_app (goodIn_of _ (by decide +kernel)) ggX2_forget_X1_count
theorem dX2_forget_0 : decode cX2_forget 0 = .ok (.aload_n 0, 1) := by decide +kernel
theorem dX2_forget_1 : decode cX2_forget 1 = .ok (.iload_n 1, 1) := by decide +kernel
theorem dX2_forget_2 : decode cX2_forget 2 = .ok (.invokevirtual 47, 3) := by decide +kernel
theorem dX2_forget_5 : decode cX2_forget 5 = .ok (.iload_n 2, 1) := by decide +kernel
theorem dX2_forget_6 : decode cX2_forget 6 = .ok (.invokestatic 37, 3) := by decide +kernel
theorem dX2_forget_9 : decode cX2_forget 9 = .ok (.aload_n 0, 1) := by decide +kernel
theorem dX2_forget_10 : decode cX2_forget 10 = .ok (.getfield 19, 3) := by decide +kernel
theorem dX2_forget_13 : decode cX2_forget 13 = .ok (.getfield 103, 3) := by decide +kernel
theorem dX2_forget_16 : decode cX2_forget 16 = .ok (.iload_n 2, 1) := by decide +kernel
theorem dX2_forget_17 : decode cX2_forget 17 = .ok (.iaload, 1) := by decide +kernel
theorem dX2_forget_18 : decode cX2_forget 18 = .ok (.iload_n 1, 1) := by decide +kernel
theorem dX2_forget_19 : decode cX2_forget 19 = .ok (.invokestatic 54, 3) := by decide +kernel
theorem dX2_forget_22 : decode cX2_forget 22 = .ok (.ifCond .ne 13, 3) := by decide +kernel
theorem dX2_forget_25 : decode cX2_forget 25 = .ok (.new 58, 3) := by decide +kernel
theorem dX2_forget_28 : decode cX2_forget 28 = .ok (.dup, 1) := by decide +kernel
theorem dX2_forget_29 : decode cX2_forget 29 = .ok (.ldc 117, 2) := by decide +kernel
theorem dX2_forget_31 : decode cX2_forget 31 = .ok (.invokespecial 62, 3) := by decide +kernel
theorem dX2_forget_34 : decode cX2_forget 34 = .ok (.athrow, 1) := by decide +kernel
theorem dX2_forget_35 : decode cX2_forget 35 = .ok (.aload_n 0, 1) := by decide +kernel
theorem dX2_forget_36 : decode cX2_forget 36 = .ok (.getfield 19, 3) := by decide +kernel
theorem dX2_forget_39 : decode cX2_forget 39 = .ok (.getfield 103, 3) := by decide +kernel
theorem dX2_forget_42 : decode cX2_forget 42 = .ok (.iload_n 2, 1) := by decide +kernel
theorem dX2_forget_43 : decode cX2_forget 43 = .ok (.aload_n 0, 1) := by decide +kernel
theorem dX2_forget_44 : decode cX2_forget 44 = .ok (.getfield 19, 3) := by decide +kernel
theorem dX2_forget_47 : decode cX2_forget 47 = .ok (.getfield 103, 3) := by decide +kernel
theorem dX2_forget_50 : decode cX2_forget 50 = .ok (.iload_n 2, 1) := by decide +kernel
theorem dX2_forget_51 : decode cX2_forget 51 = .ok (.iaload, 1) := by decide +kernel
theorem dX2_forget_52 : decode cX2_forget 52 = .ok (.iload_n 1, 1) := by decide +kernel
theorem dX2_forget_53 : decode cX2_forget 53 = .ok (.invokestatic 81, 3) := by decide +kernel
theorem dX2_forget_56 : decode cX2_forget 56 = .ok (.iastore, 1) := by decide +kernel
theorem dX2_forget_57 : decode cX2_forget 57 = .ok (.aload_n 0, 1) := by decide +kernel
theorem dX2_forget_58 : decode cX2_forget 58 = .ok (.getfield 19, 3) := by decide +kernel
theorem dX2_forget_61 : decode cX2_forget 61 = .ok (.iconst 1, 1) := by decide +kernel
theorem dX2_forget_62 : decode cX2_forget 62 = .ok (.iload_n 1, 1) := by decide +kernel
theorem dX2_forget_63 : decode cX2_forget 63 = .ok (.ishl, 1) := by decide +kernel
theorem dX2_forget_64 : decode cX2_forget 64 = .ok (.invokevirtual 114, 3) := by decide +kernel
theorem dX2_forget_67 : decode cX2_forget 67 = .ok (.ireturn, 1) := by decide +kernel
set_option maxRecDepth 20000 in
theorem ggX2_passSeasons_X2_needSeasons : GoodIn wsX2_passSeasons wsX2_needSeasons := goodIn_ca (goodIn_r _ [7, 8, 9] (by decide +kernel) (by decide +kernel)) (goodIn_sub (fun _ h => List.mem_cons_of_mem _ (List.mem_append_right _ h)) (by decide +kernel))
set_option maxRecDepth 20000 in
theorem gX2_passSeasons_X2_needSeasons : GoodIn wsX2_passSeasons (va_wsS RX2 119 yX2_needSeasons wsX2_needSeasons) := goodIn_app (goodIn_of _ (by decide +kernel)) ggX2_passSeasons_X2_needSeasons
set_option maxRecDepth 20000 in
theorem ggX2_passSeasons_X1_live : GoodIn wsX2_passSeasons wsX1_live := goodIn_r _ [14, 15, 16, 17, 18, 13, 19, 20, 21, 22, 23, 24, 25, 26, 27, 28, 29, 6, 30, 31, 32, 33, 34, 35, 36, 37, 38, 39, 40, 41, 42, 43, 44, 45, 46, 47, 48, 49, 50, 51, 52, 53, 54, 55, 56, 57, 58, 59, 60, 61, 62, 77, 78, 79, 80, 81, 82, 83, 84, 85, 86, 87, 88, 89, 90] (by decide +kernel) (by decide +kernel)
set_option maxRecDepth 20000 in
theorem gX2_passSeasons_X1_live : GoodIn wsX2_passSeasons (wsV RX2 122 RX1 yX1_live wsX1_live) := goodIn_app (goodIn_of _ (by decide +kernel)) ggX2_passSeasons_X1_live
set_option maxRecDepth 20000 in
theorem ggX2_passSeasons_X0_all : GoodIn wsX2_passSeasons wsX0_all := goodIn_r _ [67, 68, 84, 85, 86, 87, 88, 89, 90] (by decide +kernel) (by decide +kernel)
set_option maxRecDepth 20000 in
theorem gX2_passSeasons_X0_all : GoodIn wsX2_passSeasons (wsV RX2 126 RX0 yX0_all wsX0_all) := goodIn_app (goodIn_of _ (by decide +kernel)) ggX2_passSeasons_X0_all
set_option maxRecDepth 20000 in
theorem ggX2_passSeasons_X1_count : GoodIn wsX2_passSeasons wsX1_count := goodIn_r _ [72, 36, 38, 6, 39, 40, 41, 42, 43, 44, 45, 46, 77, 78, 79, 80, 81, 82, 83] (by decide +kernel) (by decide +kernel)
set_option maxRecDepth 20000 in
theorem gX2_passSeasons_X1_count : GoodIn wsX2_passSeasons (wsV RX2 114 RX1 yX1_count wsX1_count) := goodIn_app (goodIn_of _ (by decide +kernel)) ggX2_passSeasons_X1_count
theorem dX2_passSeasons_0 : decode cX2_passSeasons 0 = .ok (.iload_n 1, 1) := by decide +kernel
theorem dX2_passSeasons_1 : decode cX2_passSeasons 1 = .ok (.bipush 40, 2) := by decide +kernel
theorem dX2_passSeasons_3 : decode cX2_passSeasons 3 = .ok (.invokestatic 119, 3) := by decide +kernel
theorem dX2_passSeasons_6 : decode cX2_passSeasons 6 = .ok (.aload_n 0, 1) := by decide +kernel
theorem dX2_passSeasons_7 : decode cX2_passSeasons 7 = .ok (.getfield 19, 3) := by decide +kernel
theorem dX2_passSeasons_10 : decode cX2_passSeasons 10 = .ok (.aload_n 0, 1) := by decide +kernel
theorem dX2_passSeasons_11 : decode cX2_passSeasons 11 = .ok (.getfield 10, 3) := by decide +kernel
theorem dX2_passSeasons_14 : decode cX2_passSeasons 14 = .ok (.iload_n 1, 1) := by decide +kernel
theorem dX2_passSeasons_15 : decode cX2_passSeasons 15 = .ok (.invokevirtual 122, 3) := by decide +kernel
theorem dX2_passSeasons_18 : decode cX2_passSeasons 18 = .ok (.aload_n 0, 1) := by decide +kernel
theorem dX2_passSeasons_19 : decode cX2_passSeasons 19 = .ok (.dup, 1) := by decide +kernel
theorem dX2_passSeasons_20 : decode cX2_passSeasons 20 = .ok (.getfield 26, 3) := by decide +kernel
theorem dX2_passSeasons_23 : decode cX2_passSeasons 23 = .ok (.iload_n 1, 1) := by decide +kernel
theorem dX2_passSeasons_24 : decode cX2_passSeasons 24 = .ok (.iadd, 1) := by decide +kernel
theorem dX2_passSeasons_25 : decode cX2_passSeasons 25 = .ok (.putfield 26, 3) := by decide +kernel
theorem dX2_passSeasons_28 : decode cX2_passSeasons 28 = .ok (.aload_n 0, 1) := by decide +kernel
theorem dX2_passSeasons_29 : decode cX2_passSeasons 29 = .ok (.getfield 19, 3) := by decide +kernel
theorem dX2_passSeasons_32 : decode cX2_passSeasons 32 = .ok (.aload_n 0, 1) := by decide +kernel
theorem dX2_passSeasons_33 : decode cX2_passSeasons 33 = .ok (.getfield 10, 3) := by decide +kernel
theorem dX2_passSeasons_36 : decode cX2_passSeasons 36 = .ok (.invokevirtual 126, 3) := by decide +kernel
theorem dX2_passSeasons_39 : decode cX2_passSeasons 39 = .ok (.invokevirtual 114, 3) := by decide +kernel
theorem dX2_passSeasons_42 : decode cX2_passSeasons 42 = .ok (.ireturn, 1) := by decide +kernel
set_option maxRecDepth 20000 in
theorem ggX2_moralOf_X2_needFable : GoodIn wsX2_moralOf wsX2_needFable := goodIn_ca (goodIn_r _ [7, 8, 9, 1, 10, 11, 12, 13, 14, 15, 16, 17, 18, 19, 20, 21] (by decide +kernel) (by decide +kernel)) (goodIn_sub (fun _ h => List.mem_cons_of_mem _ (List.mem_append_right _ h)) (by decide +kernel))
set_option maxRecDepth 20000 in
theorem gX2_moralOf_X2_needFable : GoodIn wsX2_moralOf (wsV RX2 47 RX2 yX2_needFable wsX2_needFable) := goodIn_app (goodIn_of _ (by decide +kernel)) ggX2_moralOf_X2_needFable
theorem dX2_moralOf_0 : decode cX2_moralOf 0 = .ok (.aload_n 0, 1) := by decide +kernel
theorem dX2_moralOf_1 : decode cX2_moralOf 1 = .ok (.iload_n 1, 1) := by decide +kernel
theorem dX2_moralOf_2 : decode cX2_moralOf 2 = .ok (.invokevirtual 47, 3) := by decide +kernel
theorem dX2_moralOf_5 : decode cX2_moralOf 5 = .ok (.aload_n 0, 1) := by decide +kernel
theorem dX2_moralOf_6 : decode cX2_moralOf 6 = .ok (.getfield 10, 3) := by decide +kernel
theorem dX2_moralOf_9 : decode cX2_moralOf 9 = .ok (.getfield 78, 3) := by decide +kernel
theorem dX2_moralOf_12 : decode cX2_moralOf 12 = .ok (.iload_n 1, 1) := by decide +kernel
theorem dX2_moralOf_13 : decode cX2_moralOf 13 = .ok (.iaload, 1) := by decide +kernel
theorem dX2_moralOf_14 : decode cX2_moralOf 14 = .ok (.ireturn, 1) := by decide +kernel
set_option maxRecDepth 20000 in
theorem ggX2_beastsOf_X2_needFable : GoodIn wsX2_beastsOf wsX2_needFable := goodIn_ca (goodIn_r _ [7, 8, 9, 1, 10, 21, 22, 23, 24, 25, 26, 27, 28, 29, 30, 31] (by decide +kernel) (by decide +kernel)) (goodIn_sub (fun _ h => List.mem_cons_of_mem _ (List.mem_append_right _ h)) (by decide +kernel))
set_option maxRecDepth 20000 in
theorem gX2_beastsOf_X2_needFable : GoodIn wsX2_beastsOf (wsV RX2 47 RX2 yX2_needFable wsX2_needFable) := goodIn_app (goodIn_of _ (by decide +kernel)) ggX2_beastsOf_X2_needFable
set_option maxRecDepth 20000 in
theorem ggX2_beastsOf_X2_size : GoodIn wsX2_beastsOf wsX2_size := goodIn_r _ [13, 14, 15, 16, 17, 18, 19, 20] (by decide +kernel) (by decide +kernel)
set_option maxRecDepth 20000 in
theorem gX2_beastsOf_X2_size : GoodIn wsX2_beastsOf (va_wsS RX2 70 yX2_size wsX2_size) := goodIn_app (goodIn_of _ (by decide +kernel)) ggX2_beastsOf_X2_size
theorem dX2_beastsOf_0 : decode cX2_beastsOf 0 = .ok (.aload_n 0, 1) := by decide +kernel
theorem dX2_beastsOf_1 : decode cX2_beastsOf 1 = .ok (.iload_n 1, 1) := by decide +kernel
theorem dX2_beastsOf_2 : decode cX2_beastsOf 2 = .ok (.invokevirtual 47, 3) := by decide +kernel
theorem dX2_beastsOf_5 : decode cX2_beastsOf 5 = .ok (.aload_n 0, 1) := by decide +kernel
theorem dX2_beastsOf_6 : decode cX2_beastsOf 6 = .ok (.getfield 10, 3) := by decide +kernel
theorem dX2_beastsOf_9 : decode cX2_beastsOf 9 = .ok (.getfield 50, 3) := by decide +kernel
theorem dX2_beastsOf_12 : decode cX2_beastsOf 12 = .ok (.iload_n 1, 1) := by decide +kernel
theorem dX2_beastsOf_13 : decode cX2_beastsOf 13 = .ok (.iaload, 1) := by decide +kernel
theorem dX2_beastsOf_14 : decode cX2_beastsOf 14 = .ok (.invokestatic 70, 3) := by decide +kernel
theorem dX2_beastsOf_17 : decode cX2_beastsOf 17 = .ok (.ireturn, 1) := by decide +kernel
set_option maxRecDepth 20000 in
theorem ggX2_hasBeast_X2_needFable : GoodIn wsX2_hasBeast wsX2_needFable := goodIn_ca (goodIn_r _ [7, 8, 9, 1, 10, 17, 18, 19, 20, 21, 22, 23, 24, 25, 26, 27] (by decide +kernel) (by decide +kernel)) (goodIn_sub (fun _ h => List.mem_cons_of_mem _ (List.mem_append_right _ h)) (by decide +kernel))
set_option maxRecDepth 20000 in
theorem gX2_hasBeast_X2_needFable : GoodIn wsX2_hasBeast (wsV RX2 47 RX2 yX2_needFable wsX2_needFable) := goodIn_app (goodIn_of _ (by decide +kernel)) ggX2_hasBeast_X2_needFable
set_option maxRecDepth 20000 in
theorem ggX2_hasBeast_X2_needBeast : GoodIn wsX2_hasBeast wsX2_needBeast := goodIn_ca (goodIn_r _ [13, 8, 9] (by decide +kernel) (by decide +kernel)) (goodIn_sub (fun _ h => List.mem_cons_of_mem _ (List.mem_append_right _ h)) (by decide +kernel))
set_option maxRecDepth 20000 in
theorem gX2_hasBeast_X2_needBeast : GoodIn wsX2_hasBeast (va_wsS RX2 34 yX2_needBeast wsX2_needBeast) := goodIn_app (goodIn_of _ (by decide +kernel)) ggX2_hasBeast_X2_needBeast
set_option maxRecDepth 20000 in
theorem ggX2_hasBeast_X2_has : GoodIn wsX2_hasBeast wsX2_has := goodIn_r _ [16] (by decide +kernel) (by decide +kernel)
set_option maxRecDepth 20000 in
theorem gX2_hasBeast_X2_has : GoodIn wsX2_hasBeast (va_wsS RX2 54 yX2_has wsX2_has) := goodIn_app (goodIn_of _ (by decide +kernel)) ggX2_hasBeast_X2_has
theorem dX2_hasBeast_0 : decode cX2_hasBeast 0 = .ok (.aload_n 0, 1) := by decide +kernel
theorem dX2_hasBeast_1 : decode cX2_hasBeast 1 = .ok (.iload_n 1, 1) := by decide +kernel
theorem dX2_hasBeast_2 : decode cX2_hasBeast 2 = .ok (.invokevirtual 47, 3) := by decide +kernel
theorem dX2_hasBeast_5 : decode cX2_hasBeast 5 = .ok (.iload_n 2, 1) := by decide +kernel
theorem dX2_hasBeast_6 : decode cX2_hasBeast 6 = .ok (.invokestatic 34, 3) := by decide +kernel
theorem dX2_hasBeast_9 : decode cX2_hasBeast 9 = .ok (.aload_n 0, 1) := by decide +kernel
theorem dX2_hasBeast_10 : decode cX2_hasBeast 10 = .ok (.getfield 10, 3) := by decide +kernel
theorem dX2_hasBeast_13 : decode cX2_hasBeast 13 = .ok (.getfield 50, 3) := by decide +kernel
theorem dX2_hasBeast_16 : decode cX2_hasBeast 16 = .ok (.iload_n 1, 1) := by decide +kernel
theorem dX2_hasBeast_17 : decode cX2_hasBeast 17 = .ok (.iaload, 1) := by decide +kernel
theorem dX2_hasBeast_18 : decode cX2_hasBeast 18 = .ok (.iload_n 2, 1) := by decide +kernel
theorem dX2_hasBeast_19 : decode cX2_hasBeast 19 = .ok (.invokestatic 54, 3) := by decide +kernel
theorem dX2_hasBeast_22 : decode cX2_hasBeast 22 = .ok (.ireturn, 1) := by decide +kernel
set_option maxRecDepth 20000 in
theorem ggX2_homeOf_X2_needFable : GoodIn wsX2_homeOf wsX2_needFable := goodIn_ca (goodIn_r _ [7, 8, 9, 1, 10, 11, 12, 13, 14, 15, 16, 17, 18, 19, 20, 21] (by decide +kernel) (by decide +kernel)) (goodIn_sub (fun _ h => List.mem_cons_of_mem _ (List.mem_append_right _ h)) (by decide +kernel))
set_option maxRecDepth 20000 in
theorem gX2_homeOf_X2_needFable : GoodIn wsX2_homeOf (wsV RX2 47 RX2 yX2_needFable wsX2_needFable) := goodIn_app (goodIn_of _ (by decide +kernel)) ggX2_homeOf_X2_needFable
theorem dX2_homeOf_0 : decode cX2_homeOf 0 = .ok (.aload_n 0, 1) := by decide +kernel
theorem dX2_homeOf_1 : decode cX2_homeOf 1 = .ok (.iload_n 1, 1) := by decide +kernel
theorem dX2_homeOf_2 : decode cX2_homeOf 2 = .ok (.invokevirtual 47, 3) := by decide +kernel
theorem dX2_homeOf_5 : decode cX2_homeOf 5 = .ok (.aload_n 0, 1) := by decide +kernel
theorem dX2_homeOf_6 : decode cX2_homeOf 6 = .ok (.getfield 10, 3) := by decide +kernel
theorem dX2_homeOf_9 : decode cX2_homeOf 9 = .ok (.getfield 130, 3) := by decide +kernel
theorem dX2_homeOf_12 : decode cX2_homeOf 12 = .ok (.iload_n 1, 1) := by decide +kernel
theorem dX2_homeOf_13 : decode cX2_homeOf 13 = .ok (.iaload, 1) := by decide +kernel
theorem dX2_homeOf_14 : decode cX2_homeOf 14 = .ok (.ireturn, 1) := by decide +kernel
set_option maxRecDepth 20000 in
theorem ggX2_parentOf_X2_needFable : GoodIn wsX2_parentOf wsX2_needFable := goodIn_ca (goodIn_r _ [7, 8, 9, 1, 10, 11, 12, 13, 14, 15, 16, 17, 18, 19, 20, 21] (by decide +kernel) (by decide +kernel)) (goodIn_sub (fun _ h => List.mem_cons_of_mem _ (List.mem_append_right _ h)) (by decide +kernel))
set_option maxRecDepth 20000 in
theorem gX2_parentOf_X2_needFable : GoodIn wsX2_parentOf (wsV RX2 47 RX2 yX2_needFable wsX2_needFable) := goodIn_app (goodIn_of _ (by decide +kernel)) ggX2_parentOf_X2_needFable
theorem dX2_parentOf_0 : decode cX2_parentOf 0 = .ok (.aload_n 0, 1) := by decide +kernel
theorem dX2_parentOf_1 : decode cX2_parentOf 1 = .ok (.iload_n 1, 1) := by decide +kernel
theorem dX2_parentOf_2 : decode cX2_parentOf 2 = .ok (.invokevirtual 47, 3) := by decide +kernel
theorem dX2_parentOf_5 : decode cX2_parentOf 5 = .ok (.aload_n 0, 1) := by decide +kernel
theorem dX2_parentOf_6 : decode cX2_parentOf 6 = .ok (.getfield 10, 3) := by decide +kernel
theorem dX2_parentOf_9 : decode cX2_parentOf 9 = .ok (.getfield 133, 3) := by decide +kernel
theorem dX2_parentOf_12 : decode cX2_parentOf 12 = .ok (.iload_n 1, 1) := by decide +kernel
theorem dX2_parentOf_13 : decode cX2_parentOf 13 = .ok (.iaload, 1) := by decide +kernel
theorem dX2_parentOf_14 : decode cX2_parentOf 14 = .ok (.ireturn, 1) := by decide +kernel
set_option maxRecDepth 20000 in
theorem ggX2_variantsOf_X2_needFable : GoodIn wsX2_variantsOf wsX2_needFable := goodIn_ca (goodIn_r _ [7, 8, 9, 1, 10, 21, 22, 23, 24, 25, 26, 27, 28, 29, 30, 31] (by decide +kernel) (by decide +kernel)) (goodIn_sub (fun _ h => List.mem_cons_of_mem _ (List.mem_append_right _ h)) (by decide +kernel))
set_option maxRecDepth 20000 in
theorem gX2_variantsOf_X2_needFable : GoodIn wsX2_variantsOf (wsV RX2 47 RX2 yX2_needFable wsX2_needFable) := goodIn_app (goodIn_of _ (by decide +kernel)) ggX2_variantsOf_X2_needFable
set_option maxRecDepth 20000 in
theorem ggX2_variantsOf_X2_size : GoodIn wsX2_variantsOf wsX2_size := goodIn_r _ [13, 14, 15, 16, 17, 18, 19, 20] (by decide +kernel) (by decide +kernel)
set_option maxRecDepth 20000 in
theorem gX2_variantsOf_X2_size : GoodIn wsX2_variantsOf (va_wsS RX2 70 yX2_size wsX2_size) := goodIn_app (goodIn_of _ (by decide +kernel)) ggX2_variantsOf_X2_size
theorem dX2_variantsOf_0 : decode cX2_variantsOf 0 = .ok (.aload_n 0, 1) := by decide +kernel
theorem dX2_variantsOf_1 : decode cX2_variantsOf 1 = .ok (.iload_n 1, 1) := by decide +kernel
theorem dX2_variantsOf_2 : decode cX2_variantsOf 2 = .ok (.invokevirtual 47, 3) := by decide +kernel
theorem dX2_variantsOf_5 : decode cX2_variantsOf 5 = .ok (.aload_n 0, 1) := by decide +kernel
theorem dX2_variantsOf_6 : decode cX2_variantsOf 6 = .ok (.getfield 10, 3) := by decide +kernel
theorem dX2_variantsOf_9 : decode cX2_variantsOf 9 = .ok (.getfield 65, 3) := by decide +kernel
theorem dX2_variantsOf_12 : decode cX2_variantsOf 12 = .ok (.iload_n 1, 1) := by decide +kernel
theorem dX2_variantsOf_13 : decode cX2_variantsOf 13 = .ok (.iaload, 1) := by decide +kernel
theorem dX2_variantsOf_14 : decode cX2_variantsOf 14 = .ok (.invokestatic 70, 3) := by decide +kernel
theorem dX2_variantsOf_17 : decode cX2_variantsOf 17 = .ok (.ireturn, 1) := by decide +kernel
set_option maxRecDepth 20000 in
theorem ggX2_valleysOf_X2_needFable : GoodIn wsX2_valleysOf wsX2_needFable := goodIn_ca (goodIn_r _ [6, 7, 8, 9, 10, 26, 27, 28, 29, 30, 31, 32, 33, 34, 35, 36] (by decide +kernel) (by decide +kernel)) (goodIn_sub (fun _ h => List.mem_cons_of_mem _ (List.mem_append_right _ h)) (by decide +kernel))
set_option maxRecDepth 20000 in
theorem gX2_valleysOf_X2_needFable : GoodIn wsX2_valleysOf (wsV RX2 47 RX2 yX2_needFable wsX2_needFable) := goodIn_app (goodIn_of _ (by decide +kernel)) ggX2_valleysOf_X2_needFable
set_option maxRecDepth 20000 in
theorem ggX2_valleysOf_X1_count : GoodIn wsX2_valleysOf wsX1_count := goodIn_r _ [15, 16, 17, 5, 18, 19, 20, 21, 22, 23, 24, 25, 37, 38, 39, 40, 41, 42, 43] (by decide +kernel) (by decide +kernel)
set_option maxRecDepth 20000 in
theorem gX2_valleysOf_X1_count : GoodIn wsX2_valleysOf (wsV RX2 114 RX1 yX1_count wsX1_count) := goodIn_app (goodIn_of _ (by decide +kernel)) ggX2_valleysOf_X1_count
theorem dX2_valleysOf_0 : decode cX2_valleysOf 0 = .ok (.aload_n 0, 1) := by decide +kernel
theorem dX2_valleysOf_1 : decode cX2_valleysOf 1 = .ok (.iload_n 1, 1) := by decide +kernel
theorem dX2_valleysOf_2 : decode cX2_valleysOf 2 = .ok (.invokevirtual 47, 3) := by decide +kernel
theorem dX2_valleysOf_5 : decode cX2_valleysOf 5 = .ok (.aload_n 0, 1) := by decide +kernel
theorem dX2_valleysOf_6 : decode cX2_valleysOf 6 = .ok (.getfield 19, 3) := by decide +kernel
theorem dX2_valleysOf_9 : decode cX2_valleysOf 9 = .ok (.iconst 1, 1) := by decide +kernel
theorem dX2_valleysOf_10 : decode cX2_valleysOf 10 = .ok (.iload_n 1, 1) := by decide +kernel
theorem dX2_valleysOf_11 : decode cX2_valleysOf 11 = .ok (.ishl, 1) := by decide +kernel
theorem dX2_valleysOf_12 : decode cX2_valleysOf 12 = .ok (.invokevirtual 114, 3) := by decide +kernel
theorem dX2_valleysOf_15 : decode cX2_valleysOf 15 = .ok (.ireturn, 1) := by decide +kernel
set_option maxRecDepth 20000 in
theorem ggX2_kinship_X2_needFable : GoodIn wsX2_kinship wsX2_needFable := goodIn_ca (goodIn_r _ [7, 8, 9, 1, 10, 21, 22, 23, 24, 25, 26, 27, 28, 29, 30, 31] (by decide +kernel) (by decide +kernel)) (goodIn_sub (fun _ h => List.mem_cons_of_mem _ (List.mem_append_right _ h)) (by decide +kernel))
set_option maxRecDepth 20000 in
theorem gX2_kinship_X2_needFable : GoodIn wsX2_kinship (wsV RX2 47 RX2 yX2_needFable wsX2_needFable) := goodIn_app (goodIn_of _ (by decide +kernel)) ggX2_kinship_X2_needFable
set_option maxRecDepth 20000 in
theorem ggX2_kinship_X2_size : GoodIn wsX2_kinship wsX2_size := goodIn_r _ [13, 14, 15, 16, 17, 18, 19, 20] (by decide +kernel) (by decide +kernel)
set_option maxRecDepth 20000 in
theorem gX2_kinship_X2_size : GoodIn wsX2_kinship (va_wsS RX2 70 yX2_size wsX2_size) := goodIn_app (goodIn_of _ (by decide +kernel)) ggX2_kinship_X2_size
theorem dX2_kinship_0 : decode cX2_kinship 0 = .ok (.aload_n 0, 1) := by decide +kernel
theorem dX2_kinship_1 : decode cX2_kinship 1 = .ok (.iload_n 1, 1) := by decide +kernel
theorem dX2_kinship_2 : decode cX2_kinship 2 = .ok (.invokevirtual 47, 3) := by decide +kernel
theorem dX2_kinship_5 : decode cX2_kinship 5 = .ok (.aload_n 0, 1) := by decide +kernel
theorem dX2_kinship_6 : decode cX2_kinship 6 = .ok (.iload_n 2, 1) := by decide +kernel
theorem dX2_kinship_7 : decode cX2_kinship 7 = .ok (.invokevirtual 47, 3) := by decide +kernel
theorem dX2_kinship_10 : decode cX2_kinship 10 = .ok (.aload_n 0, 1) := by decide +kernel
theorem dX2_kinship_11 : decode cX2_kinship 11 = .ok (.getfield 10, 3) := by decide +kernel
theorem dX2_kinship_14 : decode cX2_kinship 14 = .ok (.getfield 136, 3) := by decide +kernel
theorem dX2_kinship_17 : decode cX2_kinship 17 = .ok (.iload_n 1, 1) := by decide +kernel
theorem dX2_kinship_18 : decode cX2_kinship 18 = .ok (.iaload, 1) := by decide +kernel
theorem dX2_kinship_19 : decode cX2_kinship 19 = .ok (.aload_n 0, 1) := by decide +kernel
theorem dX2_kinship_20 : decode cX2_kinship 20 = .ok (.getfield 10, 3) := by decide +kernel
theorem dX2_kinship_23 : decode cX2_kinship 23 = .ok (.getfield 136, 3) := by decide +kernel
theorem dX2_kinship_26 : decode cX2_kinship 26 = .ok (.iload_n 2, 1) := by decide +kernel
theorem dX2_kinship_27 : decode cX2_kinship 27 = .ok (.iaload, 1) := by decide +kernel
theorem dX2_kinship_28 : decode cX2_kinship 28 = .ok (.iand, 1) := by decide +kernel
theorem dX2_kinship_29 : decode cX2_kinship 29 = .ok (.ifCond .ne 5, 3) := by decide +kernel
theorem dX2_kinship_32 : decode cX2_kinship 32 = .ok (.iconst (-1), 1) := by decide +kernel
theorem dX2_kinship_33 : decode cX2_kinship 33 = .ok (.ireturn, 1) := by decide +kernel
theorem dX2_kinship_34 : decode cX2_kinship 34 = .ok (.aload_n 0, 1) := by decide +kernel
theorem dX2_kinship_35 : decode cX2_kinship 35 = .ok (.getfield 10, 3) := by decide +kernel
theorem dX2_kinship_38 : decode cX2_kinship 38 = .ok (.getfield 136, 3) := by decide +kernel
theorem dX2_kinship_41 : decode cX2_kinship 41 = .ok (.iload_n 1, 1) := by decide +kernel
theorem dX2_kinship_42 : decode cX2_kinship 42 = .ok (.iaload, 1) := by decide +kernel
theorem dX2_kinship_43 : decode cX2_kinship 43 = .ok (.aload_n 0, 1) := by decide +kernel
theorem dX2_kinship_44 : decode cX2_kinship 44 = .ok (.getfield 10, 3) := by decide +kernel
theorem dX2_kinship_47 : decode cX2_kinship 47 = .ok (.getfield 136, 3) := by decide +kernel
theorem dX2_kinship_50 : decode cX2_kinship 50 = .ok (.iload_n 2, 1) := by decide +kernel
theorem dX2_kinship_51 : decode cX2_kinship 51 = .ok (.iaload, 1) := by decide +kernel
theorem dX2_kinship_52 : decode cX2_kinship 52 = .ok (.ixor, 1) := by decide +kernel
theorem dX2_kinship_53 : decode cX2_kinship 53 = .ok (.invokestatic 70, 3) := by decide +kernel
theorem dX2_kinship_56 : decode cX2_kinship 56 = .ok (.ireturn, 1) := by decide +kernel
set_option maxRecDepth 20000 in
theorem ggX2_sharedBeasts_X2_needFable : GoodIn wsX2_sharedBeasts wsX2_needFable := goodIn_ca (goodIn_r _ [7, 8, 9, 1, 10, 21, 22, 23, 24, 25, 26, 27, 28, 29, 30, 31] (by decide +kernel) (by decide +kernel)) (goodIn_sub (fun _ h => List.mem_cons_of_mem _ (List.mem_append_right _ h)) (by decide +kernel))
set_option maxRecDepth 20000 in
theorem gX2_sharedBeasts_X2_needFable : GoodIn wsX2_sharedBeasts (wsV RX2 47 RX2 yX2_needFable wsX2_needFable) := goodIn_app (goodIn_of _ (by decide +kernel)) ggX2_sharedBeasts_X2_needFable
set_option maxRecDepth 20000 in
theorem ggX2_sharedBeasts_X2_size : GoodIn wsX2_sharedBeasts wsX2_size := goodIn_r _ [13, 14, 15, 16, 17, 18, 19, 20] (by decide +kernel) (by decide +kernel)
set_option maxRecDepth 20000 in
theorem gX2_sharedBeasts_X2_size : GoodIn wsX2_sharedBeasts (va_wsS RX2 70 yX2_size wsX2_size) := goodIn_app (goodIn_of _ (by decide +kernel)) ggX2_sharedBeasts_X2_size
theorem dX2_sharedBeasts_0 : decode cX2_sharedBeasts 0 = .ok (.aload_n 0, 1) := by decide +kernel
theorem dX2_sharedBeasts_1 : decode cX2_sharedBeasts 1 = .ok (.iload_n 1, 1) := by decide +kernel
theorem dX2_sharedBeasts_2 : decode cX2_sharedBeasts 2 = .ok (.invokevirtual 47, 3) := by decide +kernel
theorem dX2_sharedBeasts_5 : decode cX2_sharedBeasts 5 = .ok (.aload_n 0, 1) := by decide +kernel
theorem dX2_sharedBeasts_6 : decode cX2_sharedBeasts 6 = .ok (.iload_n 2, 1) := by decide +kernel
theorem dX2_sharedBeasts_7 : decode cX2_sharedBeasts 7 = .ok (.invokevirtual 47, 3) := by decide +kernel
theorem dX2_sharedBeasts_10 : decode cX2_sharedBeasts 10 = .ok (.aload_n 0, 1) := by decide +kernel
theorem dX2_sharedBeasts_11 : decode cX2_sharedBeasts 11 = .ok (.getfield 10, 3) := by decide +kernel
theorem dX2_sharedBeasts_14 : decode cX2_sharedBeasts 14 = .ok (.getfield 50, 3) := by decide +kernel
theorem dX2_sharedBeasts_17 : decode cX2_sharedBeasts 17 = .ok (.iload_n 1, 1) := by decide +kernel
theorem dX2_sharedBeasts_18 : decode cX2_sharedBeasts 18 = .ok (.iaload, 1) := by decide +kernel
theorem dX2_sharedBeasts_19 : decode cX2_sharedBeasts 19 = .ok (.aload_n 0, 1) := by decide +kernel
theorem dX2_sharedBeasts_20 : decode cX2_sharedBeasts 20 = .ok (.getfield 10, 3) := by decide +kernel
theorem dX2_sharedBeasts_23 : decode cX2_sharedBeasts 23 = .ok (.getfield 50, 3) := by decide +kernel
theorem dX2_sharedBeasts_26 : decode cX2_sharedBeasts 26 = .ok (.iload_n 2, 1) := by decide +kernel
theorem dX2_sharedBeasts_27 : decode cX2_sharedBeasts 27 = .ok (.iaload, 1) := by decide +kernel
theorem dX2_sharedBeasts_28 : decode cX2_sharedBeasts 28 = .ok (.iand, 1) := by decide +kernel
theorem dX2_sharedBeasts_29 : decode cX2_sharedBeasts 29 = .ok (.invokestatic 70, 3) := by decide +kernel
theorem dX2_sharedBeasts_32 : decode cX2_sharedBeasts 32 = .ok (.ireturn, 1) := by decide +kernel
set_option maxRecDepth 20000 in
theorem ggX2_isOpen_X2_needValley : GoodIn wsX2_isOpen wsX2_needValley := goodIn_ca (goodIn_r _ [6, 7, 8] (by decide +kernel) (by decide +kernel)) (goodIn_sub (fun _ h => List.mem_cons_of_mem _ (List.mem_append_right _ h)) (by decide +kernel))
set_option maxRecDepth 20000 in
theorem gX2_isOpen_X2_needValley : GoodIn wsX2_isOpen (va_wsS RX2 37 yX2_needValley wsX2_needValley) := goodIn_app (goodIn_of _ (by decide +kernel)) ggX2_isOpen_X2_needValley
set_option maxRecDepth 20000 in
theorem ggX2_isOpen_X2_has : GoodIn wsX2_isOpen wsX2_has := goodIn_r _ [11] (by decide +kernel) (by decide +kernel)
set_option maxRecDepth 20000 in
theorem gX2_isOpen_X2_has : GoodIn wsX2_isOpen (va_wsS RX2 54 yX2_has wsX2_has) := goodIn_app (goodIn_of _ (by decide +kernel)) ggX2_isOpen_X2_has
theorem dX2_isOpen_0 : decode cX2_isOpen 0 = .ok (.iload_n 1, 1) := by decide +kernel
theorem dX2_isOpen_1 : decode cX2_isOpen 1 = .ok (.invokestatic 37, 3) := by decide +kernel
theorem dX2_isOpen_4 : decode cX2_isOpen 4 = .ok (.iload_n 2, 1) := by decide +kernel
theorem dX2_isOpen_5 : decode cX2_isOpen 5 = .ok (.invokestatic 37, 3) := by decide +kernel
theorem dX2_isOpen_8 : decode cX2_isOpen 8 = .ok (.aload_n 0, 1) := by decide +kernel
theorem dX2_isOpen_9 : decode cX2_isOpen 9 = .ok (.getfield 19, 3) := by decide +kernel
theorem dX2_isOpen_12 : decode cX2_isOpen 12 = .ok (.getfield 94, 3) := by decide +kernel
theorem dX2_isOpen_15 : decode cX2_isOpen 15 = .ok (.iload_n 1, 1) := by decide +kernel
theorem dX2_isOpen_16 : decode cX2_isOpen 16 = .ok (.iaload, 1) := by decide +kernel
theorem dX2_isOpen_17 : decode cX2_isOpen 17 = .ok (.iload_n 2, 1) := by decide +kernel
theorem dX2_isOpen_18 : decode cX2_isOpen 18 = .ok (.invokestatic 54, 3) := by decide +kernel
theorem dX2_isOpen_21 : decode cX2_isOpen 21 = .ok (.ireturn, 1) := by decide +kernel
set_option maxRecDepth 20000 in
theorem ggX2_isBanned_X2_needFable : GoodIn wsX2_isBanned wsX2_needFable := goodIn_ca (goodIn_r _ [7, 8, 9, 2, 10, 25, 26, 27, 28, 29, 30, 31, 32, 33, 34, 35] (by decide +kernel) (by decide +kernel)) (goodIn_sub (fun _ h => List.mem_cons_of_mem _ (List.mem_append_right _ h)) (by decide +kernel))
set_option maxRecDepth 20000 in
theorem gX2_isBanned_X2_needFable : GoodIn wsX2_isBanned (wsV RX2 47 RX2 yX2_needFable wsX2_needFable) := goodIn_app (goodIn_of _ (by decide +kernel)) ggX2_isBanned_X2_needFable
set_option maxRecDepth 20000 in
theorem ggX2_isBanned_X2_needValley : GoodIn wsX2_isBanned wsX2_needValley := goodIn_ca (goodIn_r _ [13, 8, 9] (by decide +kernel) (by decide +kernel)) (goodIn_sub (fun _ h => List.mem_cons_of_mem _ (List.mem_append_right _ h)) (by decide +kernel))
set_option maxRecDepth 20000 in
theorem gX2_isBanned_X2_needValley : GoodIn wsX2_isBanned (va_wsS RX2 37 yX2_needValley wsX2_needValley) := goodIn_app (goodIn_of _ (by decide +kernel)) ggX2_isBanned_X2_needValley
set_option maxRecDepth 20000 in
theorem ggX2_isBanned_X1_bans : GoodIn wsX2_isBanned wsX1_bans := goodIn_r _ [18, 19, 20, 21, 22, 23, 6, 24, 36, 37, 38, 39, 40, 41, 42, 29, 30, 31, 32, 33, 34, 35] (by decide +kernel) (by decide +kernel)
set_option maxRecDepth 20000 in
theorem gX2_isBanned_X1_bans : GoodIn wsX2_isBanned (wsV RX2 108 RX1 yX1_bans wsX1_bans) := goodIn_app (goodIn_of _ (by decide +kernel)) ggX2_isBanned_X1_bans
theorem dX2_isBanned_0 : decode cX2_isBanned 0 = .ok (.aload_n 0, 1) := by decide +kernel
theorem dX2_isBanned_1 : decode cX2_isBanned 1 = .ok (.iload_n 1, 1) := by decide +kernel
theorem dX2_isBanned_2 : decode cX2_isBanned 2 = .ok (.invokevirtual 47, 3) := by decide +kernel
theorem dX2_isBanned_5 : decode cX2_isBanned 5 = .ok (.iload_n 2, 1) := by decide +kernel
theorem dX2_isBanned_6 : decode cX2_isBanned 6 = .ok (.invokestatic 37, 3) := by decide +kernel
theorem dX2_isBanned_9 : decode cX2_isBanned 9 = .ok (.aload_n 0, 1) := by decide +kernel
theorem dX2_isBanned_10 : decode cX2_isBanned 10 = .ok (.getfield 19, 3) := by decide +kernel
theorem dX2_isBanned_13 : decode cX2_isBanned 13 = .ok (.aload_n 0, 1) := by decide +kernel
theorem dX2_isBanned_14 : decode cX2_isBanned 14 = .ok (.getfield 10, 3) := by decide +kernel
theorem dX2_isBanned_17 : decode cX2_isBanned 17 = .ok (.iload_n 1, 1) := by decide +kernel
theorem dX2_isBanned_18 : decode cX2_isBanned 18 = .ok (.iload_n 2, 1) := by decide +kernel
theorem dX2_isBanned_19 : decode cX2_isBanned 19 = .ok (.invokevirtual 108, 3) := by decide +kernel
theorem dX2_isBanned_22 : decode cX2_isBanned 22 = .ok (.ireturn, 1) := by decide +kernel
set_option maxRecDepth 20000 in
theorem ggX2_isTold_X2_needFable : GoodIn wsX2_isTold wsX2_needFable := goodIn_ca (goodIn_r _ [7, 8, 9, 10, 11, 18, 19, 20, 21, 29, 30, 31, 32, 33, 34, 35] (by decide +kernel) (by decide +kernel)) (goodIn_sub (fun _ h => List.mem_cons_of_mem _ (List.mem_append_right _ h)) (by decide +kernel))
set_option maxRecDepth 20000 in
theorem gX2_isTold_X2_needFable : GoodIn wsX2_isTold (wsV RX2 47 RX2 yX2_needFable wsX2_needFable) := goodIn_app (goodIn_of _ (by decide +kernel)) ggX2_isTold_X2_needFable
set_option maxRecDepth 20000 in
theorem ggX2_isTold_X2_needValley : GoodIn wsX2_isTold wsX2_needValley := goodIn_ca (goodIn_r _ [14, 8, 9] (by decide +kernel) (by decide +kernel)) (goodIn_sub (fun _ h => List.mem_cons_of_mem _ (List.mem_append_right _ h)) (by decide +kernel))
set_option maxRecDepth 20000 in
theorem gX2_isTold_X2_needValley : GoodIn wsX2_isTold (va_wsS RX2 37 yX2_needValley wsX2_needValley) := goodIn_app (goodIn_of _ (by decide +kernel)) ggX2_isTold_X2_needValley
set_option maxRecDepth 20000 in
theorem ggX2_isTold_X2_has : GoodIn wsX2_isTold wsX2_has := goodIn_r _ [17] (by decide +kernel) (by decide +kernel)
set_option maxRecDepth 20000 in
theorem gX2_isTold_X2_has : GoodIn wsX2_isTold (va_wsS RX2 54 yX2_has wsX2_has) := goodIn_app (goodIn_of _ (by decide +kernel)) ggX2_isTold_X2_has
theorem dX2_isTold_0 : decode cX2_isTold 0 = .ok (.aload_n 0, 1) := by decide +kernel
theorem dX2_isTold_1 : decode cX2_isTold 1 = .ok (.iload_n 1, 1) := by decide +kernel
theorem dX2_isTold_2 : decode cX2_isTold 2 = .ok (.invokevirtual 47, 3) := by decide +kernel
theorem dX2_isTold_5 : decode cX2_isTold 5 = .ok (.iload_n 2, 1) := by decide +kernel
theorem dX2_isTold_6 : decode cX2_isTold 6 = .ok (.invokestatic 37, 3) := by decide +kernel
theorem dX2_isTold_9 : decode cX2_isTold 9 = .ok (.aload_n 0, 1) := by decide +kernel
theorem dX2_isTold_10 : decode cX2_isTold 10 = .ok (.getfield 19, 3) := by decide +kernel
theorem dX2_isTold_13 : decode cX2_isTold 13 = .ok (.getfield 103, 3) := by decide +kernel
theorem dX2_isTold_16 : decode cX2_isTold 16 = .ok (.iload_n 2, 1) := by decide +kernel
theorem dX2_isTold_17 : decode cX2_isTold 17 = .ok (.iaload, 1) := by decide +kernel
theorem dX2_isTold_18 : decode cX2_isTold 18 = .ok (.iload_n 1, 1) := by decide +kernel
theorem dX2_isTold_19 : decode cX2_isTold 19 = .ok (.invokestatic 54, 3) := by decide +kernel
theorem dX2_isTold_22 : decode cX2_isTold 22 = .ok (.ireturn, 1) := by decide +kernel
set_option maxRecDepth 20000 in
theorem ggX2_toldIn_X2_needValley : GoodIn wsX2_toldIn wsX2_needValley := goodIn_ca (goodIn_r _ [6, 7, 8] (by decide +kernel) (by decide +kernel)) (goodIn_sub (fun _ h => List.mem_cons_of_mem _ (List.mem_append_right _ h)) (by decide +kernel))
set_option maxRecDepth 20000 in
theorem gX2_toldIn_X2_needValley : GoodIn wsX2_toldIn (va_wsS RX2 37 yX2_needValley wsX2_needValley) := goodIn_app (goodIn_of _ (by decide +kernel)) ggX2_toldIn_X2_needValley
set_option maxRecDepth 20000 in
theorem ggX2_toldIn_X2_size : GoodIn wsX2_toldIn wsX2_size := goodIn_r _ [11, 12, 13, 14, 15, 16, 17, 18] (by decide +kernel) (by decide +kernel)
set_option maxRecDepth 20000 in
theorem gX2_toldIn_X2_size : GoodIn wsX2_toldIn (va_wsS RX2 70 yX2_size wsX2_size) := goodIn_app (goodIn_of _ (by decide +kernel)) ggX2_toldIn_X2_size
theorem dX2_toldIn_0 : decode cX2_toldIn 0 = .ok (.iload_n 1, 1) := by decide +kernel
theorem dX2_toldIn_1 : decode cX2_toldIn 1 = .ok (.invokestatic 37, 3) := by decide +kernel
theorem dX2_toldIn_4 : decode cX2_toldIn 4 = .ok (.aload_n 0, 1) := by decide +kernel
theorem dX2_toldIn_5 : decode cX2_toldIn 5 = .ok (.getfield 19, 3) := by decide +kernel
theorem dX2_toldIn_8 : decode cX2_toldIn 8 = .ok (.getfield 103, 3) := by decide +kernel
theorem dX2_toldIn_11 : decode cX2_toldIn 11 = .ok (.iload_n 1, 1) := by decide +kernel
theorem dX2_toldIn_12 : decode cX2_toldIn 12 = .ok (.iaload, 1) := by decide +kernel
theorem dX2_toldIn_13 : decode cX2_toldIn 13 = .ok (.invokestatic 70, 3) := by decide +kernel
theorem dX2_toldIn_16 : decode cX2_toldIn 16 = .ok (.ireturn, 1) := by decide +kernel
set_option maxRecDepth 20000 in
theorem ggX2_allowedIn_X2_needValley : GoodIn wsX2_allowedIn wsX2_needValley := goodIn_ca (goodIn_r _ [6, 7, 8] (by decide +kernel) (by decide +kernel)) (goodIn_sub (fun _ h => List.mem_cons_of_mem _ (List.mem_append_right _ h)) (by decide +kernel))
set_option maxRecDepth 20000 in
theorem gX2_allowedIn_X2_needValley : GoodIn wsX2_allowedIn (va_wsS RX2 37 yX2_needValley wsX2_needValley) := goodIn_app (goodIn_of _ (by decide +kernel)) ggX2_allowedIn_X2_needValley
set_option maxRecDepth 20000 in
theorem ggX2_allowedIn_X1_welcome : GoodIn wsX2_allowedIn wsX1_welcome := goodIn_r _ [13, 14, 15, 16, 17, 12, 18, 19, 20, 21, 22, 23, 5, 24, 39, 40, 41, 42, 43, 44, 45, 46, 47, 48, 49, 50, 51, 52] (by decide +kernel) (by decide +kernel)
set_option maxRecDepth 20000 in
theorem gX2_allowedIn_X1_welcome : GoodIn wsX2_allowedIn (wsV RX2 142 RX1 yX1_welcome wsX1_welcome) := goodIn_app (goodIn_of _ (by decide +kernel)) ggX2_allowedIn_X1_welcome
set_option maxRecDepth 20000 in
theorem ggX2_allowedIn_X2_size : GoodIn wsX2_allowedIn wsX2_size := goodIn_r _ [27, 28, 29, 30, 31, 32, 33, 34] (by decide +kernel) (by decide +kernel)
set_option maxRecDepth 20000 in
theorem gX2_allowedIn_X2_size : GoodIn wsX2_allowedIn (va_wsS RX2 70 yX2_size wsX2_size) := goodIn_app (goodIn_of _ (by decide +kernel)) ggX2_allowedIn_X2_size
theorem dX2_allowedIn_0 : decode cX2_allowedIn 0 = .ok (.iload_n 1, 1) := by decide +kernel
theorem dX2_allowedIn_1 : decode cX2_allowedIn 1 = .ok (.invokestatic 37, 3) := by decide +kernel
theorem dX2_allowedIn_4 : decode cX2_allowedIn 4 = .ok (.aload_n 0, 1) := by decide +kernel
theorem dX2_allowedIn_5 : decode cX2_allowedIn 5 = .ok (.getfield 19, 3) := by decide +kernel
theorem dX2_allowedIn_8 : decode cX2_allowedIn 8 = .ok (.aload_n 0, 1) := by decide +kernel
theorem dX2_allowedIn_9 : decode cX2_allowedIn 9 = .ok (.getfield 10, 3) := by decide +kernel
theorem dX2_allowedIn_12 : decode cX2_allowedIn 12 = .ok (.iload_n 1, 1) := by decide +kernel
theorem dX2_allowedIn_13 : decode cX2_allowedIn 13 = .ok (.invokevirtual 142, 3) := by decide +kernel
theorem dX2_allowedIn_16 : decode cX2_allowedIn 16 = .ok (.invokestatic 70, 3) := by decide +kernel
theorem dX2_allowedIn_19 : decode cX2_allowedIn 19 = .ok (.ireturn, 1) := by decide +kernel
set_option maxRecDepth 20000 in
theorem ggX2_bansOf_X2_needValley : GoodIn wsX2_bansOf wsX2_needValley := goodIn_ca (goodIn_r _ [7, 8, 9] (by decide +kernel) (by decide +kernel)) (goodIn_sub (fun _ h => List.mem_cons_of_mem _ (List.mem_append_right _ h)) (by decide +kernel))
set_option maxRecDepth 20000 in
theorem gX2_bansOf_X2_needValley : GoodIn wsX2_bansOf (va_wsS RX2 37 yX2_needValley wsX2_needValley) := goodIn_app (goodIn_of _ (by decide +kernel)) ggX2_bansOf_X2_needValley
set_option maxRecDepth 20000 in
theorem ggX2_bansOf_X2_size : GoodIn wsX2_bansOf wsX2_size := goodIn_r _ [12, 13, 14, 15, 16, 17, 18, 19] (by decide +kernel) (by decide +kernel)
set_option maxRecDepth 20000 in
theorem gX2_bansOf_X2_size : GoodIn wsX2_bansOf (va_wsS RX2 70 yX2_size wsX2_size) := goodIn_app (goodIn_of _ (by decide +kernel)) ggX2_bansOf_X2_size
theorem dX2_bansOf_0 : decode cX2_bansOf 0 = .ok (.iload_n 1, 1) := by decide +kernel
theorem dX2_bansOf_1 : decode cX2_bansOf 1 = .ok (.invokestatic 37, 3) := by decide +kernel
theorem dX2_bansOf_4 : decode cX2_bansOf 4 = .ok (.aload_n 0, 1) := by decide +kernel
theorem dX2_bansOf_5 : decode cX2_bansOf 5 = .ok (.getfield 19, 3) := by decide +kernel
theorem dX2_bansOf_8 : decode cX2_bansOf 8 = .ok (.getfield 97, 3) := by decide +kernel
theorem dX2_bansOf_11 : decode cX2_bansOf 11 = .ok (.iload_n 1, 1) := by decide +kernel
theorem dX2_bansOf_12 : decode cX2_bansOf 12 = .ok (.iaload, 1) := by decide +kernel
theorem dX2_bansOf_13 : decode cX2_bansOf 13 = .ok (.invokestatic 70, 3) := by decide +kernel
theorem dX2_bansOf_16 : decode cX2_bansOf 16 = .ok (.aload_n 0, 1) := by decide +kernel
theorem dX2_bansOf_17 : decode cX2_bansOf 17 = .ok (.getfield 19, 3) := by decide +kernel
theorem dX2_bansOf_20 : decode cX2_bansOf 20 = .ok (.getfield 100, 3) := by decide +kernel
theorem dX2_bansOf_23 : decode cX2_bansOf 23 = .ok (.iload_n 1, 1) := by decide +kernel
theorem dX2_bansOf_24 : decode cX2_bansOf 24 = .ok (.iaload, 1) := by decide +kernel
theorem dX2_bansOf_25 : decode cX2_bansOf 25 = .ok (.invokestatic 70, 3) := by decide +kernel
theorem dX2_bansOf_28 : decode cX2_bansOf 28 = .ok (.iadd, 1) := by decide +kernel
theorem dX2_bansOf_29 : decode cX2_bansOf 29 = .ok (.ireturn, 1) := by decide +kernel
theorem dX2_fables_0 : decode cX2_fables 0 = .ok (.aload_n 0, 1) := by decide +kernel
theorem dX2_fables_1 : decode cX2_fables 1 = .ok (.getfield 10, 3) := by decide +kernel
theorem dX2_fables_4 : decode cX2_fables 4 = .ok (.getfield 146, 3) := by decide +kernel
theorem dX2_fables_7 : decode cX2_fables 7 = .ok (.ireturn, 1) := by decide +kernel
theorem dX2_season_0 : decode cX2_season 0 = .ok (.aload_n 0, 1) := by decide +kernel
theorem dX2_season_1 : decode cX2_season 1 = .ok (.getfield 26, 3) := by decide +kernel
theorem dX2_season_4 : decode cX2_season 4 = .ok (.ireturn, 1) := by decide +kernel
set_option maxRecDepth 20000 in
theorem ggX2_tellings_X0_all : GoodIn wsX2_tellings wsX0_all := goodIn_r _ [7, 8, 29, 30, 31, 32, 33, 34, 35] (by decide +kernel) (by decide +kernel)
set_option maxRecDepth 20000 in
theorem gX2_tellings_X0_all : GoodIn wsX2_tellings (wsV RX2 126 RX0 yX0_all wsX0_all) := goodIn_app (goodIn_of _ (by decide +kernel)) ggX2_tellings_X0_all
set_option maxRecDepth 20000 in
theorem ggX2_tellings_X1_count : GoodIn wsX2_tellings wsX1_count := goodIn_r _ [13, 14, 15, 16, 17, 18, 19, 20, 21, 22, 23, 24, 36, 37, 38, 39, 40, 41, 42] (by decide +kernel) (by decide +kernel)
set_option maxRecDepth 20000 in
theorem gX2_tellings_X1_count : GoodIn wsX2_tellings (wsV RX2 114 RX1 yX1_count wsX1_count) := goodIn_app (goodIn_of _ (by decide +kernel)) ggX2_tellings_X1_count
theorem dX2_tellings_0 : decode cX2_tellings 0 = .ok (.aload_n 0, 1) := by decide +kernel
theorem dX2_tellings_1 : decode cX2_tellings 1 = .ok (.getfield 19, 3) := by decide +kernel
theorem dX2_tellings_4 : decode cX2_tellings 4 = .ok (.aload_n 0, 1) := by decide +kernel
theorem dX2_tellings_5 : decode cX2_tellings 5 = .ok (.getfield 10, 3) := by decide +kernel
theorem dX2_tellings_8 : decode cX2_tellings 8 = .ok (.invokevirtual 126, 3) := by decide +kernel
theorem dX2_tellings_11 : decode cX2_tellings 11 = .ok (.invokevirtual 114, 3) := by decide +kernel
theorem dX2_tellings_14 : decode cX2_tellings 14 = .ok (.ireturn, 1) := by decide +kernel
theorem dX2_silenced_0 : decode cX2_silenced 0 = .ok (.aload_n 0, 1) := by decide +kernel
theorem dX2_silenced_1 : decode cX2_silenced 1 = .ok (.getfield 19, 3) := by decide +kernel
theorem dX2_silenced_4 : decode cX2_silenced 4 = .ok (.getfield 148, 3) := by decide +kernel
theorem dX2_silenced_7 : decode cX2_silenced 7 = .ok (.ireturn, 1) := by decide +kernel
set_option maxRecDepth 20000 in
theorem ggX2_fablesWithMoral_X2_needMoral : GoodIn wsX2_fablesWithMoral wsX2_needMoral := goodIn_ca (goodIn_r _ [5, 6, 7] (by decide +kernel) (by decide +kernel)) (goodIn_sub (fun _ h => List.mem_cons_of_mem _ (List.mem_append_right _ h)) (by decide +kernel))
set_option maxRecDepth 20000 in
theorem gX2_fablesWithMoral_X2_needMoral : GoodIn wsX2_fablesWithMoral (va_wsS RX2 30 yX2_needMoral wsX2_needMoral) := goodIn_app (goodIn_of _ (by decide +kernel)) ggX2_fablesWithMoral_X2_needMoral
set_option maxRecDepth 20000 in
theorem ggX2_fablesWithMoral_X0_withMoral : GoodIn wsX2_fablesWithMoral wsX0_withMoral := goodIn_r _ [12, 13, 14, 29, 30, 31, 32, 33, 34, 35] (by decide +kernel) (by decide +kernel)
set_option maxRecDepth 20000 in
theorem gX2_fablesWithMoral_X0_withMoral : GoodIn wsX2_fablesWithMoral (wsV RX2 151 RX0 yX0_withMoral wsX0_withMoral) := goodIn_app (goodIn_of _ (by decide +kernel)) ggX2_fablesWithMoral_X0_withMoral
set_option maxRecDepth 20000 in
theorem ggX2_fablesWithMoral_X2_size : GoodIn wsX2_fablesWithMoral wsX2_size := goodIn_r _ [17, 18, 19, 20, 21, 22, 23, 24] (by decide +kernel) (by decide +kernel)
set_option maxRecDepth 20000 in
theorem gX2_fablesWithMoral_X2_size : GoodIn wsX2_fablesWithMoral (va_wsS RX2 70 yX2_size wsX2_size) := goodIn_app (goodIn_of _ (by decide +kernel)) ggX2_fablesWithMoral_X2_size
theorem dX2_fablesWithMoral_0 : decode cX2_fablesWithMoral 0 = .ok (.iload_n 1, 1) := by decide +kernel
theorem dX2_fablesWithMoral_1 : decode cX2_fablesWithMoral 1 = .ok (.invokestatic 30, 3) := by decide +kernel
theorem dX2_fablesWithMoral_4 : decode cX2_fablesWithMoral 4 = .ok (.aload_n 0, 1) := by decide +kernel
theorem dX2_fablesWithMoral_5 : decode cX2_fablesWithMoral 5 = .ok (.getfield 10, 3) := by decide +kernel
theorem dX2_fablesWithMoral_8 : decode cX2_fablesWithMoral 8 = .ok (.iload_n 1, 1) := by decide +kernel
theorem dX2_fablesWithMoral_9 : decode cX2_fablesWithMoral 9 = .ok (.invokevirtual 151, 3) := by decide +kernel
theorem dX2_fablesWithMoral_12 : decode cX2_fablesWithMoral 12 = .ok (.invokestatic 70, 3) := by decide +kernel
theorem dX2_fablesWithMoral_15 : decode cX2_fablesWithMoral 15 = .ok (.ireturn, 1) := by decide +kernel
set_option maxRecDepth 20000 in
theorem ggX2_fablesWithBeast_X2_needBeast : GoodIn wsX2_fablesWithBeast wsX2_needBeast := goodIn_ca (goodIn_r _ [5, 6, 7] (by decide +kernel) (by decide +kernel)) (goodIn_sub (fun _ h => List.mem_cons_of_mem _ (List.mem_append_right _ h)) (by decide +kernel))
set_option maxRecDepth 20000 in
theorem gX2_fablesWithBeast_X2_needBeast : GoodIn wsX2_fablesWithBeast (va_wsS RX2 34 yX2_needBeast wsX2_needBeast) := goodIn_app (goodIn_of _ (by decide +kernel)) ggX2_fablesWithBeast_X2_needBeast
set_option maxRecDepth 20000 in
theorem ggX2_fablesWithBeast_X0_withBeast : GoodIn wsX2_fablesWithBeast wsX0_withBeast := goodIn_r _ [12, 13, 14, 15, 4, 16, 31, 32, 33, 34, 35, 36, 37] (by decide +kernel) (by decide +kernel)
set_option maxRecDepth 20000 in
theorem gX2_fablesWithBeast_X0_withBeast : GoodIn wsX2_fablesWithBeast (wsV RX2 154 RX0 yX0_withBeast wsX0_withBeast) := goodIn_app (goodIn_of _ (by decide +kernel)) ggX2_fablesWithBeast_X0_withBeast
set_option maxRecDepth 20000 in
theorem ggX2_fablesWithBeast_X2_size : GoodIn wsX2_fablesWithBeast wsX2_size := goodIn_r _ [19, 20, 21, 22, 23, 24, 25, 26] (by decide +kernel) (by decide +kernel)
set_option maxRecDepth 20000 in
theorem gX2_fablesWithBeast_X2_size : GoodIn wsX2_fablesWithBeast (va_wsS RX2 70 yX2_size wsX2_size) := goodIn_app (goodIn_of _ (by decide +kernel)) ggX2_fablesWithBeast_X2_size
theorem dX2_fablesWithBeast_0 : decode cX2_fablesWithBeast 0 = .ok (.iload_n 1, 1) := by decide +kernel
theorem dX2_fablesWithBeast_1 : decode cX2_fablesWithBeast 1 = .ok (.invokestatic 34, 3) := by decide +kernel
theorem dX2_fablesWithBeast_4 : decode cX2_fablesWithBeast 4 = .ok (.aload_n 0, 1) := by decide +kernel
theorem dX2_fablesWithBeast_5 : decode cX2_fablesWithBeast 5 = .ok (.getfield 10, 3) := by decide +kernel
theorem dX2_fablesWithBeast_8 : decode cX2_fablesWithBeast 8 = .ok (.iload_n 1, 1) := by decide +kernel
theorem dX2_fablesWithBeast_9 : decode cX2_fablesWithBeast 9 = .ok (.invokevirtual 154, 3) := by decide +kernel
theorem dX2_fablesWithBeast_12 : decode cX2_fablesWithBeast 12 = .ok (.invokestatic 70, 3) := by decide +kernel
theorem dX2_fablesWithBeast_15 : decode cX2_fablesWithBeast 15 = .ok (.ireturn, 1) := by decide +kernel
set_option maxRecDepth 20000 in
theorem ggX2_favouriteMoral_X0_withMoral : GoodIn wsX2_favouriteMoral wsX0_withMoral := goodIn_r _ [7, 8, 9, 30, 31, 32, 33, 34, 35, 36] (by decide +kernel) (by decide +kernel)
set_option maxRecDepth 20000 in
theorem gX2_favouriteMoral_X0_withMoral : GoodIn wsX2_favouriteMoral (wsV RX2 151 RX0 yX0_withMoral wsX0_withMoral) := goodIn_app (goodIn_of _ (by decide +kernel)) ggX2_favouriteMoral_X0_withMoral
set_option maxRecDepth 20000 in
theorem ggX2_favouriteMoral_X1_count : GoodIn wsX2_favouriteMoral wsX1_count := goodIn_r _ [14, 15, 16, 17, 18, 19, 20, 21, 22, 23, 24, 25, 37, 38, 39, 40, 41, 42, 43] (by decide +kernel) (by decide +kernel)
set_option maxRecDepth 20000 in
theorem gX2_favouriteMoral_X1_count : GoodIn wsX2_favouriteMoral (wsV RX2 114 RX1 yX1_count wsX1_count) := goodIn_app (goodIn_of _ (by decide +kernel)) ggX2_favouriteMoral_X1_count
theorem dX2_favouriteMoral_0 : decode cX2_favouriteMoral 0 = .ok (.iconst (-1), 1) := by decide +kernel
theorem dX2_favouriteMoral_1 : decode cX2_favouriteMoral 1 = .ok (.istore_n 1, 1) := by decide +kernel
theorem dX2_favouriteMoral_2 : decode cX2_favouriteMoral 2 = .ok (.iconst 0, 1) := by decide +kernel
theorem dX2_favouriteMoral_3 : decode cX2_favouriteMoral 3 = .ok (.istore_n 2, 1) := by decide +kernel
theorem dX2_favouriteMoral_4 : decode cX2_favouriteMoral 4 = .ok (.iconst 0, 1) := by decide +kernel
theorem dX2_favouriteMoral_5 : decode cX2_favouriteMoral 5 = .ok (.istore_n 3, 1) := by decide +kernel
theorem dX2_favouriteMoral_6 : decode cX2_favouriteMoral 6 = .ok (.iload_n 3, 1) := by decide +kernel
theorem dX2_favouriteMoral_7 : decode cX2_favouriteMoral 7 = .ok (.bipush 10, 2) := by decide +kernel
theorem dX2_favouriteMoral_9 : decode cX2_favouriteMoral 9 = .ok (.if_icmp .ge 37, 3) := by decide +kernel
theorem dX2_favouriteMoral_12 : decode cX2_favouriteMoral 12 = .ok (.aload_n 0, 1) := by decide +kernel
theorem dX2_favouriteMoral_13 : decode cX2_favouriteMoral 13 = .ok (.getfield 19, 3) := by decide +kernel
theorem dX2_favouriteMoral_16 : decode cX2_favouriteMoral 16 = .ok (.aload_n 0, 1) := by decide +kernel
theorem dX2_favouriteMoral_17 : decode cX2_favouriteMoral 17 = .ok (.getfield 10, 3) := by decide +kernel
theorem dX2_favouriteMoral_20 : decode cX2_favouriteMoral 20 = .ok (.iload_n 3, 1) := by decide +kernel
theorem dX2_favouriteMoral_21 : decode cX2_favouriteMoral 21 = .ok (.invokevirtual 151, 3) := by decide +kernel
theorem dX2_favouriteMoral_24 : decode cX2_favouriteMoral 24 = .ok (.invokevirtual 114, 3) := by decide +kernel
theorem dX2_favouriteMoral_27 : decode cX2_favouriteMoral 27 = .ok (.istore 4, 2) := by decide +kernel
theorem dX2_favouriteMoral_29 : decode cX2_favouriteMoral 29 = .ok (.iload 4, 2) := by decide +kernel
theorem dX2_favouriteMoral_31 : decode cX2_favouriteMoral 31 = .ok (.iload_n 2, 1) := by decide +kernel
theorem dX2_favouriteMoral_32 : decode cX2_favouriteMoral 32 = .ok (.if_icmp .le 8, 3) := by decide +kernel
theorem dX2_favouriteMoral_35 : decode cX2_favouriteMoral 35 = .ok (.iload 4, 2) := by decide +kernel
theorem dX2_favouriteMoral_37 : decode cX2_favouriteMoral 37 = .ok (.istore_n 2, 1) := by decide +kernel
theorem dX2_favouriteMoral_38 : decode cX2_favouriteMoral 38 = .ok (.iload_n 3, 1) := by decide +kernel
theorem dX2_favouriteMoral_39 : decode cX2_favouriteMoral 39 = .ok (.istore_n 1, 1) := by decide +kernel
theorem dX2_favouriteMoral_40 : decode cX2_favouriteMoral 40 = .ok (.iinc 3 1, 3) := by decide +kernel
theorem dX2_favouriteMoral_43 : decode cX2_favouriteMoral 43 = .ok (.goto (-37), 3) := by decide +kernel
theorem dX2_favouriteMoral_46 : decode cX2_favouriteMoral 46 = .ok (.iload_n 1, 1) := by decide +kernel
theorem dX2_favouriteMoral_47 : decode cX2_favouriteMoral 47 = .ok (.ireturn, 1) := by decide +kernel
set_option maxRecDepth 20000 in
theorem ggX2_favouriteBeast_X0_withBeast : GoodIn wsX2_favouriteBeast wsX0_withBeast := goodIn_r _ [7, 8, 9, 10, 11, 12, 32, 33, 34, 35, 36, 37, 38] (by decide +kernel) (by decide +kernel)
set_option maxRecDepth 20000 in
theorem gX2_favouriteBeast_X0_withBeast : GoodIn wsX2_favouriteBeast (wsV RX2 154 RX0 yX0_withBeast wsX0_withBeast) := goodIn_app (goodIn_of _ (by decide +kernel)) ggX2_favouriteBeast_X0_withBeast
set_option maxRecDepth 20000 in
theorem ggX2_favouriteBeast_X1_count : GoodIn wsX2_favouriteBeast wsX1_count := goodIn_r _ [17, 18, 19, 11, 20, 21, 22, 23, 24, 25, 26, 27, 39, 40, 41, 42, 43, 44, 45] (by decide +kernel) (by decide +kernel)
set_option maxRecDepth 20000 in
theorem gX2_favouriteBeast_X1_count : GoodIn wsX2_favouriteBeast (wsV RX2 114 RX1 yX1_count wsX1_count) := goodIn_app (goodIn_of _ (by decide +kernel)) ggX2_favouriteBeast_X1_count
theorem dX2_favouriteBeast_0 : decode cX2_favouriteBeast 0 = .ok (.iconst (-1), 1) := by decide +kernel
theorem dX2_favouriteBeast_1 : decode cX2_favouriteBeast 1 = .ok (.istore_n 1, 1) := by decide +kernel
theorem dX2_favouriteBeast_2 : decode cX2_favouriteBeast 2 = .ok (.iconst 0, 1) := by decide +kernel
theorem dX2_favouriteBeast_3 : decode cX2_favouriteBeast 3 = .ok (.istore_n 2, 1) := by decide +kernel
theorem dX2_favouriteBeast_4 : decode cX2_favouriteBeast 4 = .ok (.iconst 0, 1) := by decide +kernel
theorem dX2_favouriteBeast_5 : decode cX2_favouriteBeast 5 = .ok (.istore_n 3, 1) := by decide +kernel
theorem dX2_favouriteBeast_6 : decode cX2_favouriteBeast 6 = .ok (.iload_n 3, 1) := by decide +kernel
theorem dX2_favouriteBeast_7 : decode cX2_favouriteBeast 7 = .ok (.bipush 12, 2) := by decide +kernel
theorem dX2_favouriteBeast_9 : decode cX2_favouriteBeast 9 = .ok (.if_icmp .ge 37, 3) := by decide +kernel
theorem dX2_favouriteBeast_12 : decode cX2_favouriteBeast 12 = .ok (.aload_n 0, 1) := by decide +kernel
theorem dX2_favouriteBeast_13 : decode cX2_favouriteBeast 13 = .ok (.getfield 19, 3) := by decide +kernel
theorem dX2_favouriteBeast_16 : decode cX2_favouriteBeast 16 = .ok (.aload_n 0, 1) := by decide +kernel
theorem dX2_favouriteBeast_17 : decode cX2_favouriteBeast 17 = .ok (.getfield 10, 3) := by decide +kernel
theorem dX2_favouriteBeast_20 : decode cX2_favouriteBeast 20 = .ok (.iload_n 3, 1) := by decide +kernel
theorem dX2_favouriteBeast_21 : decode cX2_favouriteBeast 21 = .ok (.invokevirtual 154, 3) := by decide +kernel
theorem dX2_favouriteBeast_24 : decode cX2_favouriteBeast 24 = .ok (.invokevirtual 114, 3) := by decide +kernel
theorem dX2_favouriteBeast_27 : decode cX2_favouriteBeast 27 = .ok (.istore 4, 2) := by decide +kernel
theorem dX2_favouriteBeast_29 : decode cX2_favouriteBeast 29 = .ok (.iload 4, 2) := by decide +kernel
theorem dX2_favouriteBeast_31 : decode cX2_favouriteBeast 31 = .ok (.iload_n 2, 1) := by decide +kernel
theorem dX2_favouriteBeast_32 : decode cX2_favouriteBeast 32 = .ok (.if_icmp .le 8, 3) := by decide +kernel
theorem dX2_favouriteBeast_35 : decode cX2_favouriteBeast 35 = .ok (.iload 4, 2) := by decide +kernel
theorem dX2_favouriteBeast_37 : decode cX2_favouriteBeast 37 = .ok (.istore_n 2, 1) := by decide +kernel
theorem dX2_favouriteBeast_38 : decode cX2_favouriteBeast 38 = .ok (.iload_n 3, 1) := by decide +kernel
theorem dX2_favouriteBeast_39 : decode cX2_favouriteBeast 39 = .ok (.istore_n 1, 1) := by decide +kernel
theorem dX2_favouriteBeast_40 : decode cX2_favouriteBeast 40 = .ok (.iinc 3 1, 3) := by decide +kernel
theorem dX2_favouriteBeast_43 : decode cX2_favouriteBeast 43 = .ok (.goto (-37), 3) := by decide +kernel
theorem dX2_favouriteBeast_46 : decode cX2_favouriteBeast 46 = .ok (.iload_n 1, 1) := by decide +kernel
theorem dX2_favouriteBeast_47 : decode cX2_favouriteBeast 47 = .ok (.ireturn, 1) := by decide +kernel
set_option maxRecDepth 20000 in
theorem ggX2_meanBeasts_X2_size : GoodIn wsX2_meanBeasts wsX2_size := goodIn_r _ [7, 8, 9, 10, 11, 12, 13, 14] (by decide +kernel) (by decide +kernel)
set_option maxRecDepth 20000 in
theorem gX2_meanBeasts_X2_size : GoodIn wsX2_meanBeasts (va_wsS RX2 70 yX2_size wsX2_size) := goodIn_app (goodIn_of _ (by decide +kernel)) ggX2_meanBeasts_X2_size
theorem dX2_meanBeasts_0 : decode cX2_meanBeasts 0 = .ok (.aload_n 0, 1) := by decide +kernel
theorem dX2_meanBeasts_1 : decode cX2_meanBeasts 1 = .ok (.getfield 10, 3) := by decide +kernel
theorem dX2_meanBeasts_4 : decode cX2_meanBeasts 4 = .ok (.getfield 146, 3) := by decide +kernel
theorem dX2_meanBeasts_7 : decode cX2_meanBeasts 7 = .ok (.ifCond .ne 5, 3) := by decide +kernel
theorem dX2_meanBeasts_10 : decode cX2_meanBeasts 10 = .ok (.dconst 0, 1) := by decide +kernel
theorem dX2_meanBeasts_11 : decode cX2_meanBeasts 11 = .ok (.dreturn, 1) := by decide +kernel
theorem dX2_meanBeasts_12 : decode cX2_meanBeasts 12 = .ok (.iconst 0, 1) := by decide +kernel
theorem dX2_meanBeasts_13 : decode cX2_meanBeasts 13 = .ok (.istore_n 1, 1) := by decide +kernel
theorem dX2_meanBeasts_14 : decode cX2_meanBeasts 14 = .ok (.iconst 0, 1) := by decide +kernel
theorem dX2_meanBeasts_15 : decode cX2_meanBeasts 15 = .ok (.istore_n 2, 1) := by decide +kernel
theorem dX2_meanBeasts_16 : decode cX2_meanBeasts 16 = .ok (.iload_n 2, 1) := by decide +kernel
theorem dX2_meanBeasts_17 : decode cX2_meanBeasts 17 = .ok (.aload_n 0, 1) := by decide +kernel
theorem dX2_meanBeasts_18 : decode cX2_meanBeasts 18 = .ok (.getfield 10, 3) := by decide +kernel
theorem dX2_meanBeasts_21 : decode cX2_meanBeasts 21 = .ok (.getfield 146, 3) := by decide +kernel
theorem dX2_meanBeasts_24 : decode cX2_meanBeasts 24 = .ok (.if_icmp .ge 24, 3) := by decide +kernel
theorem dX2_meanBeasts_27 : decode cX2_meanBeasts 27 = .ok (.iload_n 1, 1) := by decide +kernel
theorem dX2_meanBeasts_28 : decode cX2_meanBeasts 28 = .ok (.aload_n 0, 1) := by decide +kernel
theorem dX2_meanBeasts_29 : decode cX2_meanBeasts 29 = .ok (.getfield 10, 3) := by decide +kernel
theorem dX2_meanBeasts_32 : decode cX2_meanBeasts 32 = .ok (.getfield 50, 3) := by decide +kernel
theorem dX2_meanBeasts_35 : decode cX2_meanBeasts 35 = .ok (.iload_n 2, 1) := by decide +kernel
theorem dX2_meanBeasts_36 : decode cX2_meanBeasts 36 = .ok (.iaload, 1) := by decide +kernel
theorem dX2_meanBeasts_37 : decode cX2_meanBeasts 37 = .ok (.invokestatic 70, 3) := by decide +kernel
theorem dX2_meanBeasts_40 : decode cX2_meanBeasts 40 = .ok (.iadd, 1) := by decide +kernel
theorem dX2_meanBeasts_41 : decode cX2_meanBeasts 41 = .ok (.istore_n 1, 1) := by decide +kernel
theorem dX2_meanBeasts_42 : decode cX2_meanBeasts 42 = .ok (.iinc 2 1, 3) := by decide +kernel
theorem dX2_meanBeasts_45 : decode cX2_meanBeasts 45 = .ok (.goto (-29), 3) := by decide +kernel
theorem dX2_meanBeasts_48 : decode cX2_meanBeasts 48 = .ok (.iload_n 1, 1) := by decide +kernel
theorem dX2_meanBeasts_49 : decode cX2_meanBeasts 49 = .ok (.i2d, 1) := by decide +kernel
theorem dX2_meanBeasts_50 : decode cX2_meanBeasts 50 = .ok (.aload_n 0, 1) := by decide +kernel
theorem dX2_meanBeasts_51 : decode cX2_meanBeasts 51 = .ok (.getfield 10, 3) := by decide +kernel
theorem dX2_meanBeasts_54 : decode cX2_meanBeasts 54 = .ok (.getfield 146, 3) := by decide +kernel
theorem dX2_meanBeasts_57 : decode cX2_meanBeasts 57 = .ok (.i2d, 1) := by decide +kernel
theorem dX2_meanBeasts_58 : decode cX2_meanBeasts 58 = .ok (.ddiv, 1) := by decide +kernel
theorem dX2_meanBeasts_59 : decode cX2_meanBeasts 59 = .ok (.dreturn, 1) := by decide +kernel
theorem dX2_needFable_0 : decode cX2_needFable 0 = .ok (.iload_n 1, 1) := by decide +kernel
theorem dX2_needFable_1 : decode cX2_needFable 1 = .ok (.ifCond .lt 14, 3) := by decide +kernel
theorem dX2_needFable_4 : decode cX2_needFable 4 = .ok (.iload_n 1, 1) := by decide +kernel
theorem dX2_needFable_5 : decode cX2_needFable 5 = .ok (.aload_n 0, 1) := by decide +kernel
theorem dX2_needFable_6 : decode cX2_needFable 6 = .ok (.getfield 10, 3) := by decide +kernel
theorem dX2_needFable_9 : decode cX2_needFable 9 = .ok (.getfield 146, 3) := by decide +kernel
theorem dX2_needFable_12 : decode cX2_needFable 12 = .ok (.if_icmp .lt 13, 3) := by decide +kernel
theorem dX2_needFable_15 : decode cX2_needFable 15 = .ok (.new 238, 3) := by decide +kernel
theorem dX2_needFable_18 : decode cX2_needFable 18 = .ok (.dup, 1) := by decide +kernel
theorem dX2_needFable_19 : decode cX2_needFable 19 = .ok (.ldc 240, 2) := by decide +kernel
theorem dX2_needFable_21 : decode cX2_needFable 21 = .ok (.invokespecial 242, 3) := by decide +kernel
theorem dX2_needFable_24 : decode cX2_needFable 24 = .ok (.athrow, 1) := by decide +kernel
theorem dX2_needFable_25 : decode cX2_needFable 25 = .ok (.return_, 1) := by decide +kernel
theorem dX2_needFreePage_0 : decode cX2_needFreePage 0 = .ok (.aload_n 0, 1) := by decide +kernel
theorem dX2_needFreePage_1 : decode cX2_needFreePage 1 = .ok (.getfield 10, 3) := by decide +kernel
theorem dX2_needFreePage_4 : decode cX2_needFreePage 4 = .ok (.getfield 146, 3) := by decide +kernel
theorem dX2_needFreePage_7 : decode cX2_needFreePage 7 = .ok (.bipush 20, 2) := by decide +kernel
theorem dX2_needFreePage_9 : decode cX2_needFreePage 9 = .ok (.if_icmp .lt 13, 3) := by decide +kernel
theorem dX2_needFreePage_12 : decode cX2_needFreePage 12 = .ok (.new 58, 3) := by decide +kernel
theorem dX2_needFreePage_15 : decode cX2_needFreePage 15 = .ok (.dup, 1) := by decide +kernel
theorem dX2_needFreePage_16 : decode cX2_needFreePage 16 = .ok (.ldc 243, 2) := by decide +kernel
theorem dX2_needFreePage_18 : decode cX2_needFreePage 18 = .ok (.invokespecial 62, 3) := by decide +kernel
theorem dX2_needFreePage_21 : decode cX2_needFreePage 21 = .ok (.athrow, 1) := by decide +kernel
theorem dX2_needFreePage_22 : decode cX2_needFreePage 22 = .ok (.return_, 1) := by decide +kernel
theorem dX2_needMoral_0 : decode cX2_needMoral 0 = .ok (.iload_n 0, 1) := by decide +kernel
theorem dX2_needMoral_1 : decode cX2_needMoral 1 = .ok (.ifCond .lt 9, 3) := by decide +kernel
theorem dX2_needMoral_4 : decode cX2_needMoral 4 = .ok (.iload_n 0, 1) := by decide +kernel
theorem dX2_needMoral_5 : decode cX2_needMoral 5 = .ok (.bipush 10, 2) := by decide +kernel
theorem dX2_needMoral_7 : decode cX2_needMoral 7 = .ok (.if_icmp .lt 13, 3) := by decide +kernel
theorem dX2_needMoral_10 : decode cX2_needMoral 10 = .ok (.new 238, 3) := by decide +kernel
theorem dX2_needMoral_13 : decode cX2_needMoral 13 = .ok (.dup, 1) := by decide +kernel
theorem dX2_needMoral_14 : decode cX2_needMoral 14 = .ok (.ldc 245, 2) := by decide +kernel
theorem dX2_needMoral_16 : decode cX2_needMoral 16 = .ok (.invokespecial 242, 3) := by decide +kernel
theorem dX2_needMoral_19 : decode cX2_needMoral 19 = .ok (.athrow, 1) := by decide +kernel
theorem dX2_needMoral_20 : decode cX2_needMoral 20 = .ok (.return_, 1) := by decide +kernel
theorem dX2_needBeast_0 : decode cX2_needBeast 0 = .ok (.iload_n 0, 1) := by decide +kernel
theorem dX2_needBeast_1 : decode cX2_needBeast 1 = .ok (.ifCond .lt 9, 3) := by decide +kernel
theorem dX2_needBeast_4 : decode cX2_needBeast 4 = .ok (.iload_n 0, 1) := by decide +kernel
theorem dX2_needBeast_5 : decode cX2_needBeast 5 = .ok (.bipush 12, 2) := by decide +kernel
theorem dX2_needBeast_7 : decode cX2_needBeast 7 = .ok (.if_icmp .lt 13, 3) := by decide +kernel
theorem dX2_needBeast_10 : decode cX2_needBeast 10 = .ok (.new 238, 3) := by decide +kernel
theorem dX2_needBeast_13 : decode cX2_needBeast 13 = .ok (.dup, 1) := by decide +kernel
theorem dX2_needBeast_14 : decode cX2_needBeast 14 = .ok (.ldc 247, 2) := by decide +kernel
theorem dX2_needBeast_16 : decode cX2_needBeast 16 = .ok (.invokespecial 242, 3) := by decide +kernel
theorem dX2_needBeast_19 : decode cX2_needBeast 19 = .ok (.athrow, 1) := by decide +kernel
theorem dX2_needBeast_20 : decode cX2_needBeast 20 = .ok (.return_, 1) := by decide +kernel
theorem dX2_needValley_0 : decode cX2_needValley 0 = .ok (.iload_n 0, 1) := by decide +kernel
theorem dX2_needValley_1 : decode cX2_needValley 1 = .ok (.ifCond .lt 9, 3) := by decide +kernel
theorem dX2_needValley_4 : decode cX2_needValley 4 = .ok (.iload_n 0, 1) := by decide +kernel
theorem dX2_needValley_5 : decode cX2_needValley 5 = .ok (.bipush 6, 2) := by decide +kernel
theorem dX2_needValley_7 : decode cX2_needValley 7 = .ok (.if_icmp .lt 13, 3) := by decide +kernel
theorem dX2_needValley_10 : decode cX2_needValley 10 = .ok (.new 238, 3) := by decide +kernel
theorem dX2_needValley_13 : decode cX2_needValley 13 = .ok (.dup, 1) := by decide +kernel
theorem dX2_needValley_14 : decode cX2_needValley 14 = .ok (.ldc 249, 2) := by decide +kernel
theorem dX2_needValley_16 : decode cX2_needValley 16 = .ok (.invokespecial 242, 3) := by decide +kernel
theorem dX2_needValley_19 : decode cX2_needValley 19 = .ok (.athrow, 1) := by decide +kernel
theorem dX2_needValley_20 : decode cX2_needValley 20 = .ok (.return_, 1) := by decide +kernel
theorem dX2_needSeasons_0 : decode cX2_needSeasons 0 = .ok (.iload_n 0, 1) := by decide +kernel
theorem dX2_needSeasons_1 : decode cX2_needSeasons 1 = .ok (.iconst 1, 1) := by decide +kernel
theorem dX2_needSeasons_2 : decode cX2_needSeasons 2 = .ok (.if_icmp .lt 8, 3) := by decide +kernel
theorem dX2_needSeasons_5 : decode cX2_needSeasons 5 = .ok (.iload_n 0, 1) := by decide +kernel
theorem dX2_needSeasons_6 : decode cX2_needSeasons 6 = .ok (.iload_n 1, 1) := by decide +kernel
theorem dX2_needSeasons_7 : decode cX2_needSeasons 7 = .ok (.if_icmp .le 13, 3) := by decide +kernel
theorem dX2_needSeasons_10 : decode cX2_needSeasons 10 = .ok (.new 85, 3) := by decide +kernel
theorem dX2_needSeasons_13 : decode cX2_needSeasons 13 = .ok (.dup, 1) := by decide +kernel
theorem dX2_needSeasons_14 : decode cX2_needSeasons 14 = .ok (.ldc 251, 2) := by decide +kernel
theorem dX2_needSeasons_16 : decode cX2_needSeasons 16 = .ok (.invokespecial 89, 3) := by decide +kernel
theorem dX2_needSeasons_19 : decode cX2_needSeasons 19 = .ok (.athrow, 1) := by decide +kernel
theorem dX2_needSeasons_20 : decode cX2_needSeasons 20 = .ok (.return_, 1) := by decide +kernel
theorem dX2_has_0 : decode cX2_has 0 = .ok (.iload_n 0, 1) := by decide +kernel
theorem dX2_has_1 : decode cX2_has 1 = .ok (.iload_n 1, 1) := by decide +kernel
theorem dX2_has_2 : decode cX2_has 2 = .ok (.ishr, 1) := by decide +kernel
theorem dX2_has_3 : decode cX2_has 3 = .ok (.iconst 1, 1) := by decide +kernel
theorem dX2_has_4 : decode cX2_has 4 = .ok (.iand, 1) := by decide +kernel
theorem dX2_has_5 : decode cX2_has 5 = .ok (.ifCond .eq 7, 3) := by decide +kernel
theorem dX2_has_8 : decode cX2_has 8 = .ok (.iconst 1, 1) := by decide +kernel
theorem dX2_has_9 : decode cX2_has 9 = .ok (.goto 4, 3) := by decide +kernel
theorem dX2_has_12 : decode cX2_has 12 = .ok (.iconst 0, 1) := by decide +kernel
theorem dX2_has_13 : decode cX2_has 13 = .ok (.ireturn, 1) := by decide +kernel
theorem dX2_turned_0 : decode cX2_turned 0 = .ok (.iload_n 0, 1) := by decide +kernel
theorem dX2_turned_1 : decode cX2_turned 1 = .ok (.iconst 1, 1) := by decide +kernel
theorem dX2_turned_2 : decode cX2_turned 2 = .ok (.iload_n 1, 1) := by decide +kernel
theorem dX2_turned_3 : decode cX2_turned 3 = .ok (.ishl, 1) := by decide +kernel
theorem dX2_turned_4 : decode cX2_turned 4 = .ok (.ixor, 1) := by decide +kernel
theorem dX2_turned_5 : decode cX2_turned 5 = .ok (.ireturn, 1) := by decide +kernel
set_option maxRecDepth 20000 in
theorem ggX2_size_J6_bitCount_0f7a4 : GoodIn wsX2_size wsJ6_bitCount_0f7a4 := goodIn_r _ [4, 5, 6, 7] (by decide +kernel) (by decide +kernel)
set_option maxRecDepth 20000 in
theorem gX2_size_J6_bitCount_0f7a4 : GoodIn wsX2_size (va_wsS RX2 253 yJ6_bitCount_0f7a4 wsJ6_bitCount_0f7a4) := goodIn_app (goodIn_of _ (by decide +kernel)) ggX2_size_J6_bitCount_0f7a4
theorem dX2_size_0 : decode cX2_size 0 = .ok (.iload_n 0, 1) := by decide +kernel
theorem dX2_size_1 : decode cX2_size 1 = .ok (.invokestatic 253, 3) := by decide +kernel
theorem dX2_size_4 : decode cX2_size 4 = .ok (.ireturn, 1) := by decide +kernel
theorem dX2_smallestAlone_0 : decode cX2_smallestAlone 0 = .ok (.iload_n 0, 1) := by decide +kernel
theorem dX2_smallestAlone_1 : decode cX2_smallestAlone 1 = .ok (.iload_n 0, 1) := by decide +kernel
theorem dX2_smallestAlone_2 : decode cX2_smallestAlone 2 = .ok (.ineg, 1) := by decide +kernel
theorem dX2_smallestAlone_3 : decode cX2_smallestAlone 3 = .ok (.iand, 1) := by decide +kernel
theorem dX2_smallestAlone_4 : decode cX2_smallestAlone 4 = .ok (.ireturn, 1) := by decide +kernel
