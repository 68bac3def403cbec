theorem dX3_init_0 : decode cX3_init 0 = .ok (.aload_n 0, 1) := by decide +kernel
theorem dX3_init_1 : decode cX3_init 1 = .ok (.invokespecial 1, 3) := by decide +kernel
theorem dX3_init_4 : decode cX3_init 4 = .ok (.aload_n 0, 1) := by decide +kernel
theorem dX3_init_5 : decode cX3_init 5 = .ok (.bipush 20, 2) := by decide +kernel
theorem dX3_init_7 : decode cX3_init 7 = .ok (.newarray .int, 2) := by decide +kernel
theorem dX3_init_9 : decode cX3_init 9 = .ok (.putfield 9, 3) := by decide +kernel
theorem dX3_init_12 : decode cX3_init 12 = .ok (.aload_n 0, 1) := by decide +kernel
theorem dX3_init_13 : decode cX3_init 13 = .ok (.bipush 20, 2) := by decide +kernel
theorem dX3_init_15 : decode cX3_init 15 = .ok (.newarray .int, 2) := by decide +kernel
theorem dX3_init_17 : decode cX3_init 17 = .ok (.putfield 13, 3) := by decide +kernel
theorem dX3_init_20 : decode cX3_init 20 = .ok (.aload_n 0, 1) := by decide +kernel
theorem dX3_init_21 : decode cX3_init 21 = .ok (.bipush 20, 2) := by decide +kernel
theorem dX3_init_23 : decode cX3_init 23 = .ok (.newarray .int, 2) := by decide +kernel
theorem dX3_init_25 : decode cX3_init 25 = .ok (.putfield 16, 3) := by decide +kernel
theorem dX3_init_28 : decode cX3_init 28 = .ok (.aload_n 0, 1) := by decide +kernel
theorem dX3_init_29 : decode cX3_init 29 = .ok (.bipush 20, 2) := by decide +kernel
theorem dX3_init_31 : decode cX3_init 31 = .ok (.newarray .int, 2) := by decide +kernel
theorem dX3_init_33 : decode cX3_init 33 = .ok (.putfield 19, 3) := by decide +kernel
theorem dX3_init_36 : decode cX3_init 36 = .ok (.aload_n 0, 1) := by decide +kernel
theorem dX3_init_37 : decode cX3_init 37 = .ok (.bipush 6, 2) := by decide +kernel
theorem dX3_init_39 : decode cX3_init 39 = .ok (.newarray .int, 2) := by decide +kernel
theorem dX3_init_41 : decode cX3_init 41 = .ok (.putfield 22, 3) := by decide +kernel
theorem dX3_init_44 : decode cX3_init 44 = .ok (.aload_n 0, 1) := by decide +kernel
theorem dX3_init_45 : decode cX3_init 45 = .ok (.bipush 6, 2) := by decide +kernel
theorem dX3_init_47 : decode cX3_init 47 = .ok (.newarray .int, 2) := by decide +kernel
theorem dX3_init_49 : decode cX3_init 49 = .ok (.putfield 25, 3) := by decide +kernel
theorem dX3_init_52 : decode cX3_init 52 = .ok (.aload_n 0, 1) := by decide +kernel
theorem dX3_init_53 : decode cX3_init 53 = .ok (.bipush 6, 2) := by decide +kernel
theorem dX3_init_55 : decode cX3_init 55 = .ok (.newarray .int, 2) := by decide +kernel
theorem dX3_init_57 : decode cX3_init 57 = .ok (.putfield 28, 3) := by decide +kernel
theorem dX3_init_60 : decode cX3_init 60 = .ok (.aload_n 0, 1) := by decide +kernel
theorem dX3_init_61 : decode cX3_init 61 = .ok (.bipush 6, 2) := by decide +kernel
theorem dX3_init_63 : decode cX3_init 63 = .ok (.newarray .int, 2) := by decide +kernel
theorem dX3_init_65 : decode cX3_init 65 = .ok (.putfield 31, 3) := by decide +kernel
theorem dX3_init_68 : decode cX3_init 68 = .ok (.aload_n 0, 1) := by decide +kernel
theorem dX3_init_69 : decode cX3_init 69 = .ok (.bipush 6, 2) := by decide +kernel
theorem dX3_init_71 : decode cX3_init 71 = .ok (.newarray .int, 2) := by decide +kernel
theorem dX3_init_73 : decode cX3_init 73 = .ok (.putfield 34, 3) := by decide +kernel
theorem dX3_init_76 : decode cX3_init 76 = .ok (.aload_n 0, 1) := by decide +kernel
theorem dX3_init_77 : decode cX3_init 77 = .ok (.bipush 6, 2) := by decide +kernel
theorem dX3_init_79 : decode cX3_init 79 = .ok (.newarray .int, 2) := by decide +kernel
theorem dX3_init_81 : decode cX3_init 81 = .ok (.putfield 37, 3) := by decide +kernel
theorem dX3_init_84 : decode cX3_init 84 = .ok (.return_, 1) := by decide +kernel
theorem dX3_thrown_0 : decode cX3_thrown 0 = .ok (.aload_n 0, 1) := by decide +kernel
theorem dX3_thrown_1 : decode cX3_thrown 1 = .ok (.getfield 40, 3) := by decide +kernel
theorem dX3_thrown_4 : decode cX3_thrown 4 = .ok (.ireturn, 1) := by decide +kernel
theorem dX3_fail_0 : decode cX3_fail 0 = .ok (.aload_n 0, 1) := by decide +kernel
theorem dX3_fail_1 : decode cX3_fail 1 = .ok (.iload_n 1, 1) := by decide +kernel
theorem dX3_fail_2 : decode cX3_fail 2 = .ok (.putfield 40, 3) := by decide +kernel
theorem dX3_fail_5 : decode cX3_fail 5 = .ok (.iconst 0, 1) := by decide +kernel
theorem dX3_fail_6 : decode cX3_fail 6 = .ok (.ireturn, 1) := by decide +kernel
theorem dX3_failed_0 : decode cX3_failed 0 = .ok (.aload_n 0, 1) := by decide +kernel
theorem dX3_failed_1 : decode cX3_failed 1 = .ok (.iload_n 1, 1) := by decide +kernel
theorem dX3_failed_2 : decode cX3_failed 2 = .ok (.putfield 40, 3) := by decide +kernel
theorem dX3_failed_5 : decode cX3_failed 5 = .ok (.iconst 0, 1) := by decide +kernel
theorem dX3_failed_6 : decode cX3_failed 6 = .ok (.ireturn, 1) := by decide +kernel
theorem dX3_isIn_0 : decode cX3_isIn 0 = .ok (.iload_n 0, 1) := by decide +kernel
theorem dX3_isIn_1 : decode cX3_isIn 1 = .ok (.iload_n 1, 1) := by decide +kernel
theorem dX3_isIn_2 : decode cX3_isIn 2 = .ok (.if_icmp .lt 12, 3) := by decide +kernel
theorem dX3_isIn_5 : decode cX3_isIn 5 = .ok (.iload_n 0, 1) := by decide +kernel
theorem dX3_isIn_6 : decode cX3_isIn 6 = .ok (.iload_n 2, 1) := by decide +kernel
theorem dX3_isIn_7 : decode cX3_isIn 7 = .ok (.if_icmp .gt 7, 3) := by decide +kernel
theorem dX3_isIn_10 : decode cX3_isIn 10 = .ok (.iconst 1, 1) := by decide +kernel
theorem dX3_isIn_11 : decode cX3_isIn 11 = .ok (.goto 4, 3) := by decide +kernel
theorem dX3_isIn_14 : decode cX3_isIn 14 = .ok (.iconst 0, 1) := by decide +kernel
theorem dX3_isIn_15 : decode cX3_isIn 15 = .ok (.ireturn, 1) := by decide +kernel
set_option maxRecDepth 20000 in
theorem ggX3_isFable_X3_isIn : GoodIn wsX3_isFable wsX3_isIn := goodIn_r _ [5] (by decide +kernel) (by decide +kernel)
set_option maxRecDepth 20000 in
theorem gX3_isFable_X3_isIn : GoodIn wsX3_isFable (va_wsS RX3 47 yX3_isIn wsX3_isIn) := goodIn_app (goodIn_of _ (by decide +kernel)) ggX3_isFable_X3_isIn
theorem dX3_isFable_0 : decode cX3_isFable 0 = .ok (.iload_n 1, 1) := by decide +kernel
theorem dX3_isFable_1 : decode cX3_isFable 1 = .ok (.iconst 0, 1) := by decide +kernel
theorem dX3_isFable_2 : decode cX3_isFable 2 = .ok (.aload_n 0, 1) := by decide +kernel
theorem dX3_isFable_3 : decode cX3_isFable 3 = .ok (.getfield 44, 3) := by decide +kernel
theorem dX3_isFable_6 : decode cX3_isFable 6 = .ok (.iconst 1, 1) := by decide +kernel
theorem dX3_isFable_7 : decode cX3_isFable 7 = .ok (.isub, 1) := by decide +kernel
theorem dX3_isFable_8 : decode cX3_isFable 8 = .ok (.invokestatic 47, 3) := by decide +kernel
theorem dX3_isFable_11 : decode cX3_isFable 11 = .ok (.ireturn, 1) := by decide +kernel
set_option maxRecDepth 20000 in
theorem ggX3_isValley_X3_isIn : GoodIn wsX3_isValley wsX3_isIn := goodIn_r _ [4] (by decide +kernel) (by decide +kernel)
set_option maxRecDepth 20000 in
theorem gX3_isValley_X3_isIn : GoodIn wsX3_isValley (va_wsS RX3 47 yX3_isIn wsX3_isIn) := goodIn_app (goodIn_of _ (by decide +kernel)) ggX3_isValley_X3_isIn
theorem dX3_isValley_0 : decode cX3_isValley 0 = .ok (.iload_n 0, 1) := by decide +kernel
theorem dX3_isValley_1 : decode cX3_isValley 1 = .ok (.iconst 0, 1) := by decide +kernel
theorem dX3_isValley_2 : decode cX3_isValley 2 = .ok (.iconst 5, 1) := by decide +kernel
theorem dX3_isValley_3 : decode cX3_isValley 3 = .ok (.invokestatic 47, 3) := by decide +kernel
theorem dX3_isValley_6 : decode cX3_isValley 6 = .ok (.ireturn, 1) := by decide +kernel
set_option maxRecDepth 20000 in
theorem ggX3_isBeast_X3_isIn : GoodIn wsX3_isBeast wsX3_isIn := goodIn_r _ [4] (by decide +kernel) (by decide +kernel)
set_option maxRecDepth 20000 in
theorem gX3_isBeast_X3_isIn : GoodIn wsX3_isBeast (va_wsS RX3 47 yX3_isIn wsX3_isIn) := goodIn_app (goodIn_of _ (by decide +kernel)) ggX3_isBeast_X3_isIn
theorem dX3_isBeast_0 : decode cX3_isBeast 0 = .ok (.iload_n 0, 1) := by decide +kernel
theorem dX3_isBeast_1 : decode cX3_isBeast 1 = .ok (.iconst 0, 1) := by decide +kernel
theorem dX3_isBeast_2 : decode cX3_isBeast 2 = .ok (.bipush 11, 2) := by decide +kernel
theorem dX3_isBeast_4 : decode cX3_isBeast 4 = .ok (.invokestatic 47, 3) := by decide +kernel
theorem dX3_isBeast_7 : decode cX3_isBeast 7 = .ok (.ireturn, 1) := by decide +kernel
set_option maxRecDepth 20000 in
theorem ggX3_isMoral_X3_isIn : GoodIn wsX3_isMoral wsX3_isIn := goodIn_r _ [4] (by decide +kernel) (by decide +kernel)
set_option maxRecDepth 20000 in
theorem gX3_isMoral_X3_isIn : GoodIn wsX3_isMoral (va_wsS RX3 47 yX3_isIn wsX3_isIn) := goodIn_app (goodIn_of _ (by decide +kernel)) ggX3_isMoral_X3_isIn
theorem dX3_isMoral_0 : decode cX3_isMoral 0 = .ok (.iload_n 0, 1) := by decide +kernel
theorem dX3_isMoral_1 : decode cX3_isMoral 1 = .ok (.iconst 0, 1) := by decide +kernel
theorem dX3_isMoral_2 : decode cX3_isMoral 2 = .ok (.bipush 9, 2) := by decide +kernel
theorem dX3_isMoral_4 : decode cX3_isMoral 4 = .ok (.invokestatic 47, 3) := by decide +kernel
theorem dX3_isMoral_7 : decode cX3_isMoral 7 = .ok (.ireturn, 1) := by decide +kernel
theorem dX3_has_0 : decode cX3_has 0 = .ok (.iload_n 0, 1) := by decide +kernel
theorem dX3_has_1 : decode cX3_has 1 = .ok (.iload_n 1, 1) := by decide +kernel
theorem dX3_has_2 : decode cX3_has 2 = .ok (.ishr, 1) := by decide +kernel
theorem dX3_has_3 : decode cX3_has 3 = .ok (.iconst 1, 1) := by decide +kernel
theorem dX3_has_4 : decode cX3_has 4 = .ok (.iand, 1) := by decide +kernel
theorem dX3_has_5 : decode cX3_has 5 = .ok (.iconst 1, 1) := by decide +kernel
theorem dX3_has_6 : decode cX3_has 6 = .ok (.if_icmp .ne 7, 3) := by decide +kernel
theorem dX3_has_9 : decode cX3_has 9 = .ok (.iconst 1, 1) := by decide +kernel
theorem dX3_has_10 : decode cX3_has 10 = .ok (.goto 4, 3) := by decide +kernel
theorem dX3_has_13 : decode cX3_has 13 = .ok (.iconst 0, 1) := by decide +kernel
theorem dX3_has_14 : decode cX3_has 14 = .ok (.ireturn, 1) := by decide +kernel
theorem dX3_many_0 : decode cX3_many 0 = .ok (.iconst 0, 1) := by decide +kernel
theorem dX3_many_1 : decode cX3_many 1 = .ok (.istore_n 1, 1) := by decide +kernel
theorem dX3_many_2 : decode cX3_many 2 = .ok (.iload_n 0, 1) := by decide +kernel
theorem dX3_many_3 : decode cX3_many 3 = .ok (.istore_n 2, 1) := by decide +kernel
theorem dX3_many_4 : decode cX3_many 4 = .ok (.iload_n 2, 1) := by decide +kernel
theorem dX3_many_5 : decode cX3_many 5 = .ok (.ifCond .eq 15, 3) := by decide +kernel
theorem dX3_many_8 : decode cX3_many 8 = .ok (.iinc 1 1, 3) := by decide +kernel
theorem dX3_many_11 : decode cX3_many 11 = .ok (.iload_n 2, 1) := by decide +kernel
theorem dX3_many_12 : decode cX3_many 12 = .ok (.iload_n 2, 1) := by decide +kernel
theorem dX3_many_13 : decode cX3_many 13 = .ok (.iconst 1, 1) := by decide +kernel
theorem dX3_many_14 : decode cX3_many 14 = .ok (.isub, 1) := by decide +kernel
theorem dX3_many_15 : decode cX3_many 15 = .ok (.iand, 1) := by decide +kernel
theorem dX3_many_16 : decode cX3_many 16 = .ok (.istore_n 2, 1) := by decide +kernel
theorem dX3_many_17 : decode cX3_many 17 = .ok (.goto (-13), 3) := by decide +kernel
theorem dX3_many_20 : decode cX3_many 20 = .ok (.iload_n 1, 1) := by decide +kernel
theorem dX3_many_21 : decode cX3_many 21 = .ok (.ireturn, 1) := by decide +kernel
set_option maxRecDepth 20000 in
theorem ggX3_banned_X3_has : GoodIn wsX3_banned wsX3_has := goodIn_r _ [8] (by decide +kernel) (by decide +kernel)
set_option maxRecDepth 20000 in
theorem gX3_banned_X3_has : GoodIn wsX3_banned (va_wsS RX3 51 yX3_has wsX3_has) := goodIn_app (goodIn_of _ (by decide +kernel)) ggX3_banned_X3_has
theorem dX3_banned_0 : decode cX3_banned 0 = .ok (.aload_n 0, 1) := by decide +kernel
theorem dX3_banned_1 : decode cX3_banned 1 = .ok (.getfield 25, 3) := by decide +kernel
theorem dX3_banned_4 : decode cX3_banned 4 = .ok (.iload_n 2, 1) := by decide +kernel
theorem dX3_banned_5 : decode cX3_banned 5 = .ok (.iaload, 1) := by decide +kernel
theorem dX3_banned_6 : decode cX3_banned 6 = .ok (.aload_n 0, 1) := by decide +kernel
theorem dX3_banned_7 : decode cX3_banned 7 = .ok (.getfield 9, 3) := by decide +kernel
theorem dX3_banned_10 : decode cX3_banned 10 = .ok (.iload_n 1, 1) := by decide +kernel
theorem dX3_banned_11 : decode cX3_banned 11 = .ok (.iaload, 1) := by decide +kernel
theorem dX3_banned_12 : decode cX3_banned 12 = .ok (.invokestatic 51, 3) := by decide +kernel
theorem dX3_banned_15 : decode cX3_banned 15 = .ok (.ifCond .ne 19, 3) := by decide +kernel
theorem dX3_banned_18 : decode cX3_banned 18 = .ok (.aload_n 0, 1) := by decide +kernel
theorem dX3_banned_19 : decode cX3_banned 19 = .ok (.getfield 28, 3) := by decide +kernel
theorem dX3_banned_22 : decode cX3_banned 22 = .ok (.iload_n 2, 1) := by decide +kernel
theorem dX3_banned_23 : decode cX3_banned 23 = .ok (.iaload, 1) := by decide +kernel
theorem dX3_banned_24 : decode cX3_banned 24 = .ok (.aload_n 0, 1) := by decide +kernel
theorem dX3_banned_25 : decode cX3_banned 25 = .ok (.getfield 13, 3) := by decide +kernel
theorem dX3_banned_28 : decode cX3_banned 28 = .ok (.iload_n 1, 1) := by decide +kernel
theorem dX3_banned_29 : decode cX3_banned 29 = .ok (.iaload, 1) := by decide +kernel
theorem dX3_banned_30 : decode cX3_banned 30 = .ok (.iand, 1) := by decide +kernel
theorem dX3_banned_31 : decode cX3_banned 31 = .ok (.ifCond .eq 7, 3) := by decide +kernel
theorem dX3_banned_34 : decode cX3_banned 34 = .ok (.iconst 1, 1) := by decide +kernel
theorem dX3_banned_35 : decode cX3_banned 35 = .ok (.goto 4, 3) := by decide +kernel
theorem dX3_banned_38 : decode cX3_banned 38 = .ok (.iconst 0, 1) := by decide +kernel
theorem dX3_banned_39 : decode cX3_banned 39 = .ok (.ireturn, 1) := by decide +kernel
theorem dX3_write_0 : decode cX3_write 0 = .ok (.aload_n 0, 1) := by decide +kernel
theorem dX3_write_1 : decode cX3_write 1 = .ok (.getfield 9, 3) := by decide +kernel
theorem dX3_write_4 : decode cX3_write 4 = .ok (.aload_n 0, 1) := by decide +kernel
theorem dX3_write_5 : decode cX3_write 5 = .ok (.getfield 44, 3) := by decide +kernel
theorem dX3_write_8 : decode cX3_write 8 = .ok (.iload_n 1, 1) := by decide +kernel
theorem dX3_write_9 : decode cX3_write 9 = .ok (.iastore, 1) := by decide +kernel
theorem dX3_write_10 : decode cX3_write 10 = .ok (.aload_n 0, 1) := by decide +kernel
theorem dX3_write_11 : decode cX3_write 11 = .ok (.getfield 13, 3) := by decide +kernel
theorem dX3_write_14 : decode cX3_write 14 = .ok (.aload_n 0, 1) := by decide +kernel
theorem dX3_write_15 : decode cX3_write 15 = .ok (.getfield 44, 3) := by decide +kernel
theorem dX3_write_18 : decode cX3_write 18 = .ok (.iload_n 2, 1) := by decide +kernel
theorem dX3_write_19 : decode cX3_write 19 = .ok (.iastore, 1) := by decide +kernel
theorem dX3_write_20 : decode cX3_write 20 = .ok (.aload_n 0, 1) := by decide +kernel
theorem dX3_write_21 : decode cX3_write 21 = .ok (.getfield 16, 3) := by decide +kernel
theorem dX3_write_24 : decode cX3_write 24 = .ok (.aload_n 0, 1) := by decide +kernel
theorem dX3_write_25 : decode cX3_write 25 = .ok (.getfield 44, 3) := by decide +kernel
theorem dX3_write_28 : decode cX3_write 28 = .ok (.iload_n 3, 1) := by decide +kernel
theorem dX3_write_29 : decode cX3_write 29 = .ok (.iastore, 1) := by decide +kernel
theorem dX3_write_30 : decode cX3_write 30 = .ok (.aload_n 0, 1) := by decide +kernel
theorem dX3_write_31 : decode cX3_write 31 = .ok (.getfield 19, 3) := by decide +kernel
theorem dX3_write_34 : decode cX3_write 34 = .ok (.aload_n 0, 1) := by decide +kernel
theorem dX3_write_35 : decode cX3_write 35 = .ok (.getfield 44, 3) := by decide +kernel
theorem dX3_write_38 : decode cX3_write 38 = .ok (.iload 4, 2) := by decide +kernel
theorem dX3_write_40 : decode cX3_write 40 = .ok (.iastore, 1) := by decide +kernel
theorem dX3_write_41 : decode cX3_write 41 = .ok (.aload_n 0, 1) := by decide +kernel
theorem dX3_write_42 : decode cX3_write 42 = .ok (.dup, 1) := by decide +kernel
theorem dX3_write_43 : decode cX3_write 43 = .ok (.getfield 44, 3) := by decide +kernel
theorem dX3_write_46 : decode cX3_write 46 = .ok (.iconst 1, 1) := by decide +kernel
theorem dX3_write_47 : decode cX3_write 47 = .ok (.iadd, 1) := by decide +kernel
theorem dX3_write_48 : decode cX3_write 48 = .ok (.putfield 44, 3) := by decide +kernel
theorem dX3_write_51 : decode cX3_write 51 = .ok (.aload_n 0, 1) := by decide +kernel
theorem dX3_write_52 : decode cX3_write 52 = .ok (.getfield 44, 3) := by decide +kernel
theorem dX3_write_55 : decode cX3_write 55 = .ok (.iconst 1, 1) := by decide +kernel
theorem dX3_write_56 : decode cX3_write 56 = .ok (.isub, 1) := by decide +kernel
theorem dX3_write_57 : decode cX3_write 57 = .ok (.ireturn, 1) := by decide +kernel
theorem dX3_children_0 : decode cX3_children 0 = .ok (.iconst 0, 1) := by decide +kernel
theorem dX3_children_1 : decode cX3_children 1 = .ok (.istore_n 2, 1) := by decide +kernel
theorem dX3_children_2 : decode cX3_children 2 = .ok (.iconst 0, 1) := by decide +kernel
theorem dX3_children_3 : decode cX3_children 3 = .ok (.istore_n 3, 1) := by decide +kernel
theorem dX3_children_4 : decode cX3_children 4 = .ok (.iload_n 3, 1) := by decide +kernel
theorem dX3_children_5 : decode cX3_children 5 = .ok (.aload_n 0, 1) := by decide +kernel
theorem dX3_children_6 : decode cX3_children 6 = .ok (.getfield 44, 3) := by decide +kernel
theorem dX3_children_9 : decode cX3_children 9 = .ok (.if_icmp .ge 27, 3) := by decide +kernel
theorem dX3_children_12 : decode cX3_children 12 = .ok (.iload_n 2, 1) := by decide +kernel
theorem dX3_children_13 : decode cX3_children 13 = .ok (.aload_n 0, 1) := by decide +kernel
theorem dX3_children_14 : decode cX3_children 14 = .ok (.getfield 19, 3) := by decide +kernel
theorem dX3_children_17 : decode cX3_children 17 = .ok (.iload_n 3, 1) := by decide +kernel
theorem dX3_children_18 : decode cX3_children 18 = .ok (.iaload, 1) := by decide +kernel
theorem dX3_children_19 : decode cX3_children 19 = .ok (.iload_n 1, 1) := by decide +kernel
theorem dX3_children_20 : decode cX3_children 20 = .ok (.if_icmp .ne 7, 3) := by decide +kernel
theorem dX3_children_23 : decode cX3_children 23 = .ok (.iconst 1, 1) := by decide +kernel
theorem dX3_children_24 : decode cX3_children 24 = .ok (.goto 4, 3) := by decide +kernel
theorem dX3_children_27 : decode cX3_children 27 = .ok (.iconst 0, 1) := by decide +kernel
theorem dX3_children_28 : decode cX3_children 28 = .ok (.iadd, 1) := by decide +kernel
theorem dX3_children_29 : decode cX3_children 29 = .ok (.istore_n 2, 1) := by decide +kernel
theorem dX3_children_30 : decode cX3_children 30 = .ok (.iinc 3 1, 3) := by decide +kernel
theorem dX3_children_33 : decode cX3_children 33 = .ok (.goto (-29), 3) := by decide +kernel
theorem dX3_children_36 : decode cX3_children 36 = .ok (.iload_n 2, 1) := by decide +kernel
theorem dX3_children_37 : decode cX3_children 37 = .ok (.ireturn, 1) := by decide +kernel
set_option maxRecDepth 20000 in
theorem ggX3_addFable_X3_isMoral : GoodIn wsX3_addFable wsX3_isMoral := goodIn_r _ [6, 7, 8, 5, 9] (by decide +kernel) (by decide +kernel)
set_option maxRecDepth 20000 in
theorem gX3_addFable_X3_isMoral : GoodIn wsX3_addFable (va_wsS RX3 55 yX3_isMoral wsX3_isMoral) := goodIn_app (goodIn_of _ (by decide +kernel)) ggX3_addFable_X3_isMoral
set_option maxRecDepth 20000 in
theorem ggX3_addFable_X3_isBeast : GoodIn wsX3_addFable wsX3_isBeast := goodIn_r _ [12, 7, 8, 5, 9] (by decide +kernel) (by decide +kernel)
set_option maxRecDepth 20000 in
theorem gX3_addFable_X3_isBeast : GoodIn wsX3_addFable (va_wsS RX3 59 yX3_isBeast wsX3_isBeast) := goodIn_app (goodIn_of _ (by decide +kernel)) ggX3_addFable_X3_isBeast
set_option maxRecDepth 20000 in
theorem ggX3_addFable_X3_isValley : GoodIn wsX3_addFable wsX3_isValley := goodIn_r _ [15, 7, 8, 5, 9] (by decide +kernel) (by decide +kernel)
set_option maxRecDepth 20000 in
theorem gX3_addFable_X3_isValley : GoodIn wsX3_addFable (va_wsS RX3 62 yX3_isValley wsX3_isValley) := goodIn_app (goodIn_of _ (by decide +kernel)) ggX3_addFable_X3_isValley
set_option maxRecDepth 20000 in
theorem ggX3_addFable_X3_fail : GoodIn wsX3_addFable wsX3_fail := goodIn_r _ [19, 1, 28, 29, 30, 31, 32, 33, 34, 35, 36, 37, 38, 39, 40, 41] (by decide +kernel) (by decide +kernel)
set_option maxRecDepth 20000 in
theorem gX3_addFable_X3_fail : GoodIn wsX3_addFable (wsV RX3 65 RX3 yX3_fail wsX3_fail) := goodIn_app (goodIn_of _ (by decide +kernel)) ggX3_addFable_X3_fail
set_option maxRecDepth 20000 in
theorem ggX3_addFable_X3_write : GoodIn wsX3_addFable wsX3_write := goodIn_r _ [23, 24, 2, 25, 26, 27, 28, 29, 30, 31, 32, 33, 34, 35, 36, 37, 38, 39, 40, 41] (by decide +kernel) (by decide +kernel)
set_option maxRecDepth 20000 in
theorem gX3_addFable_X3_write : GoodIn wsX3_addFable (wsV RX3 69 RX3 yX3_write wsX3_write) := goodIn_app (goodIn_of _ (by decide +kernel)) ggX3_addFable_X3_write
theorem dX3_addFable_0 : decode cX3_addFable 0 = .ok (.aload_n 0, 1) := by decide +kernel
theorem dX3_addFable_1 : decode cX3_addFable 1 = .ok (.iconst 0, 1) := by decide +kernel
theorem dX3_addFable_2 : decode cX3_addFable 2 = .ok (.putfield 40, 3) := by decide +kernel
theorem dX3_addFable_5 : decode cX3_addFable 5 = .ok (.iload_n 1, 1) := by decide +kernel
theorem dX3_addFable_6 : decode cX3_addFable 6 = .ok (.invokestatic 55, 3) := by decide +kernel
theorem dX3_addFable_9 : decode cX3_addFable 9 = .ok (.ifCond .eq 17, 3) := by decide +kernel
theorem dX3_addFable_12 : decode cX3_addFable 12 = .ok (.iload_n 2, 1) := by decide +kernel
theorem dX3_addFable_13 : decode cX3_addFable 13 = .ok (.invokestatic 59, 3) := by decide +kernel
theorem dX3_addFable_16 : decode cX3_addFable 16 = .ok (.ifCond .eq 10, 3) := by decide +kernel
theorem dX3_addFable_19 : decode cX3_addFable 19 = .ok (.iload_n 3, 1) := by decide +kernel
theorem dX3_addFable_20 : decode cX3_addFable 20 = .ok (.invokestatic 62, 3) := by decide +kernel
theorem dX3_addFable_23 : decode cX3_addFable 23 = .ok (.ifCond .ne 9, 3) := by decide +kernel
theorem dX3_addFable_26 : decode cX3_addFable 26 = .ok (.aload_n 0, 1) := by decide +kernel
theorem dX3_addFable_27 : decode cX3_addFable 27 = .ok (.iconst 1, 1) := by decide +kernel
theorem dX3_addFable_28 : decode cX3_addFable 28 = .ok (.invokevirtual 65, 3) := by decide +kernel
theorem dX3_addFable_31 : decode cX3_addFable 31 = .ok (.ireturn, 1) := by decide +kernel
theorem dX3_addFable_32 : decode cX3_addFable 32 = .ok (.aload_n 0, 1) := by decide +kernel
theorem dX3_addFable_33 : decode cX3_addFable 33 = .ok (.getfield 44, 3) := by decide +kernel
theorem dX3_addFable_36 : decode cX3_addFable 36 = .ok (.bipush 20, 2) := by decide +kernel
theorem dX3_addFable_38 : decode cX3_addFable 38 = .ok (.if_icmp .ne 11, 3) := by decide +kernel
theorem dX3_addFable_41 : decode cX3_addFable 41 = .ok (.aload_n 0, 1) := by decide +kernel
theorem dX3_addFable_42 : decode cX3_addFable 42 = .ok (.iconst 2, 1) := by decide +kernel
theorem dX3_addFable_43 : decode cX3_addFable 43 = .ok (.invokevirtual 65, 3) := by decide +kernel
theorem dX3_addFable_46 : decode cX3_addFable 46 = .ok (.goto 13, 3) := by decide +kernel
theorem dX3_addFable_49 : decode cX3_addFable 49 = .ok (.aload_n 0, 1) := by decide +kernel
theorem dX3_addFable_50 : decode cX3_addFable 50 = .ok (.iload_n 1, 1) := by decide +kernel
theorem dX3_addFable_51 : decode cX3_addFable 51 = .ok (.iconst 1, 1) := by decide +kernel
theorem dX3_addFable_52 : decode cX3_addFable 52 = .ok (.iload_n 2, 1) := by decide +kernel
theorem dX3_addFable_53 : decode cX3_addFable 53 = .ok (.ishl, 1) := by decide +kernel
theorem dX3_addFable_54 : decode cX3_addFable 54 = .ok (.iload_n 3, 1) := by decide +kernel
theorem dX3_addFable_55 : decode cX3_addFable 55 = .ok (.iconst (-1), 1) := by decide +kernel
theorem dX3_addFable_56 : decode cX3_addFable 56 = .ok (.invokevirtual 69, 3) := by decide +kernel
theorem dX3_addFable_59 : decode cX3_addFable 59 = .ok (.ireturn, 1) := by decide +kernel
set_option maxRecDepth 20000 in
theorem ggX3_addBeast_X3_isFable : GoodIn wsX3_addBeast wsX3_isFable := goodIn_r _ [7, 8, 9, 10, 6, 11, 30, 31, 32, 33, 34, 35, 36, 37, 38, 39, 40, 41, 42, 43] (by decide +kernel) (by decide +kernel)
set_option maxRecDepth 20000 in
theorem gX3_addBeast_X3_isFable : GoodIn wsX3_addBeast (wsV RX3 73 RX3 yX3_isFable wsX3_isFable) := goodIn_app (goodIn_of _ (by decide +kernel)) ggX3_addBeast_X3_isFable
set_option maxRecDepth 20000 in
theorem ggX3_addBeast_X3_isBeast : GoodIn wsX3_addBeast wsX3_isBeast := goodIn_r _ [14, 9, 10, 6, 11] (by decide +kernel) (by decide +kernel)
set_option maxRecDepth 20000 in
theorem gX3_addBeast_X3_isBeast : GoodIn wsX3_addBeast (va_wsS RX3 59 yX3_isBeast wsX3_isBeast) := goodIn_app (goodIn_of _ (by decide +kernel)) ggX3_addBeast_X3_isBeast
set_option maxRecDepth 20000 in
theorem ggX3_addBeast_X3_fail : GoodIn wsX3_addBeast wsX3_fail := goodIn_r _ [18, 1, 30, 31, 32, 33, 34, 35, 36, 37, 38, 39, 40, 41, 42, 43] (by decide +kernel) (by decide +kernel)
set_option maxRecDepth 20000 in
theorem gX3_addBeast_X3_fail : GoodIn wsX3_addBeast (wsV RX3 65 RX3 yX3_fail wsX3_fail) := goodIn_app (goodIn_of _ (by decide +kernel)) ggX3_addBeast_X3_fail
set_option maxRecDepth 20000 in
theorem ggX3_addBeast_X3_has : GoodIn wsX3_addBeast wsX3_has := goodIn_r _ [21] (by decide +kernel) (by decide +kernel)
set_option maxRecDepth 20000 in
theorem gX3_addBeast_X3_has : GoodIn wsX3_addBeast (va_wsS RX3 51 yX3_has wsX3_has) := goodIn_app (goodIn_of _ (by decide +kernel)) ggX3_addBeast_X3_has
set_option maxRecDepth 20000 in
theorem ggX3_addBeast_X3_children : GoodIn wsX3_addBeast wsX3_children := goodIn_r _ [25, 8, 26, 30, 31, 32, 33, 34, 35, 36, 37, 38, 39, 40, 41, 42, 43] (by decide +kernel) (by decide +kernel)
set_option maxRecDepth 20000 in
theorem gX3_addBeast_X3_children : GoodIn wsX3_addBeast (wsV RX3 76 RX3 yX3_children wsX3_children) := goodIn_app (goodIn_of _ (by decide +kernel)) ggX3_addBeast_X3_children
set_option maxRecDepth 20000 in
theorem ggX3_addBeast_X3_many : GoodIn wsX3_addBeast wsX3_many := goodIn_r _ [29] (by decide +kernel) (by decide +kernel)
set_option maxRecDepth 20000 in
theorem gX3_addBeast_X3_many : GoodIn wsX3_addBeast (va_wsS RX3 79 yX3_many wsX3_many) := goodIn_app (goodIn_of _ (by decide +kernel)) ggX3_addBeast_X3_many
theorem dX3_addBeast_0 : decode cX3_addBeast 0 = .ok (.aload_n 0, 1) := by decide +kernel
theorem dX3_addBeast_1 : decode cX3_addBeast 1 = .ok (.iconst 0, 1) := by decide +kernel
theorem dX3_addBeast_2 : decode cX3_addBeast 2 = .ok (.putfield 40, 3) := by decide +kernel
theorem dX3_addBeast_5 : decode cX3_addBeast 5 = .ok (.aload_n 0, 1) := by decide +kernel
theorem dX3_addBeast_6 : decode cX3_addBeast 6 = .ok (.iload_n 1, 1) := by decide +kernel
theorem dX3_addBeast_7 : decode cX3_addBeast 7 = .ok (.invokevirtual 73, 3) := by decide +kernel
theorem dX3_addBeast_10 : decode cX3_addBeast 10 = .ok (.ifCond .eq 10, 3) := by decide +kernel
theorem dX3_addBeast_13 : decode cX3_addBeast 13 = .ok (.iload_n 2, 1) := by decide +kernel
theorem dX3_addBeast_14 : decode cX3_addBeast 14 = .ok (.invokestatic 59, 3) := by decide +kernel
theorem dX3_addBeast_17 : decode cX3_addBeast 17 = .ok (.ifCond .ne 9, 3) := by decide +kernel
theorem dX3_addBeast_20 : decode cX3_addBeast 20 = .ok (.aload_n 0, 1) := by decide +kernel
theorem dX3_addBeast_21 : decode cX3_addBeast 21 = .ok (.iconst 1, 1) := by decide +kernel
theorem dX3_addBeast_22 : decode cX3_addBeast 22 = .ok (.invokevirtual 65, 3) := by decide +kernel
theorem dX3_addBeast_25 : decode cX3_addBeast 25 = .ok (.ireturn, 1) := by decide +kernel
theorem dX3_addBeast_26 : decode cX3_addBeast 26 = .ok (.aload_n 0, 1) := by decide +kernel
theorem dX3_addBeast_27 : decode cX3_addBeast 27 = .ok (.getfield 13, 3) := by decide +kernel
theorem dX3_addBeast_30 : decode cX3_addBeast 30 = .ok (.iload_n 1, 1) := by decide +kernel
theorem dX3_addBeast_31 : decode cX3_addBeast 31 = .ok (.iaload, 1) := by decide +kernel
theorem dX3_addBeast_32 : decode cX3_addBeast 32 = .ok (.iload_n 2, 1) := by decide +kernel
theorem dX3_addBeast_33 : decode cX3_addBeast 33 = .ok (.invokestatic 51, 3) := by decide +kernel
theorem dX3_addBeast_36 : decode cX3_addBeast 36 = .ok (.ifCond .ne 11, 3) := by decide +kernel
theorem dX3_addBeast_39 : decode cX3_addBeast 39 = .ok (.aload_n 0, 1) := by decide +kernel
theorem dX3_addBeast_40 : decode cX3_addBeast 40 = .ok (.iload_n 1, 1) := by decide +kernel
theorem dX3_addBeast_41 : decode cX3_addBeast 41 = .ok (.invokevirtual 76, 3) := by decide +kernel
theorem dX3_addBeast_44 : decode cX3_addBeast 44 = .ok (.ifCond .le 9, 3) := by decide +kernel
theorem dX3_addBeast_47 : decode cX3_addBeast 47 = .ok (.aload_n 0, 1) := by decide +kernel
theorem dX3_addBeast_48 : decode cX3_addBeast 48 = .ok (.iconst 2, 1) := by decide +kernel
theorem dX3_addBeast_49 : decode cX3_addBeast 49 = .ok (.invokevirtual 65, 3) := by decide +kernel
theorem dX3_addBeast_52 : decode cX3_addBeast 52 = .ok (.ireturn, 1) := by decide +kernel
theorem dX3_addBeast_53 : decode cX3_addBeast 53 = .ok (.aload_n 0, 1) := by decide +kernel
theorem dX3_addBeast_54 : decode cX3_addBeast 54 = .ok (.getfield 13, 3) := by decide +kernel
theorem dX3_addBeast_57 : decode cX3_addBeast 57 = .ok (.iload_n 1, 1) := by decide +kernel
theorem dX3_addBeast_58 : decode cX3_addBeast 58 = .ok (.dup2, 1) := by decide +kernel
theorem dX3_addBeast_59 : decode cX3_addBeast 59 = .ok (.iaload, 1) := by decide +kernel
theorem dX3_addBeast_60 : decode cX3_addBeast 60 = .ok (.iconst 1, 1) := by decide +kernel
theorem dX3_addBeast_61 : decode cX3_addBeast 61 = .ok (.iload_n 2, 1) := by decide +kernel
theorem dX3_addBeast_62 : decode cX3_addBeast 62 = .ok (.ishl, 1) := by decide +kernel
theorem dX3_addBeast_63 : decode cX3_addBeast 63 = .ok (.ior, 1) := by decide +kernel
theorem dX3_addBeast_64 : decode cX3_addBeast 64 = .ok (.iastore, 1) := by decide +kernel
theorem dX3_addBeast_65 : decode cX3_addBeast 65 = .ok (.aload_n 0, 1) := by decide +kernel
theorem dX3_addBeast_66 : decode cX3_addBeast 66 = .ok (.getfield 13, 3) := by decide +kernel
theorem dX3_addBeast_69 : decode cX3_addBeast 69 = .ok (.iload_n 1, 1) := by decide +kernel
theorem dX3_addBeast_70 : decode cX3_addBeast 70 = .ok (.iaload, 1) := by decide +kernel
theorem dX3_addBeast_71 : decode cX3_addBeast 71 = .ok (.invokestatic 79, 3) := by decide +kernel
theorem dX3_addBeast_74 : decode cX3_addBeast 74 = .ok (.ireturn, 1) := by decide +kernel
set_option maxRecDepth 20000 in
theorem ggX3_addVariant_X3_isFable : GoodIn wsX3_addVariant wsX3_isFable := goodIn_r _ [9, 2, 10, 11, 8, 12, 32, 33, 34, 35, 36, 37, 38, 39, 40, 41, 42, 43, 44, 45] (by decide +kernel) (by decide +kernel)
set_option maxRecDepth 20000 in
theorem gX3_addVariant_X3_isFable : GoodIn wsX3_addVariant (wsV RX3 73 RX3 yX3_isFable wsX3_isFable) := goodIn_app (goodIn_of _ (by decide +kernel)) ggX3_addVariant_X3_isFable
set_option maxRecDepth 20000 in
theorem ggX3_addVariant_X3_isBeast : GoodIn wsX3_addVariant wsX3_isBeast := goodIn_r _ [15, 10, 11, 8, 12] (by decide +kernel) (by decide +kernel)
set_option maxRecDepth 20000 in
theorem gX3_addVariant_X3_isBeast : GoodIn wsX3_addVariant (va_wsS RX3 59 yX3_isBeast wsX3_isBeast) := goodIn_app (goodIn_of _ (by decide +kernel)) ggX3_addVariant_X3_isBeast
set_option maxRecDepth 20000 in
theorem ggX3_addVariant_X3_isValley : GoodIn wsX3_addVariant wsX3_isValley := goodIn_r _ [18, 10, 11, 8, 12] (by decide +kernel) (by decide +kernel)
set_option maxRecDepth 20000 in
theorem gX3_addVariant_X3_isValley : GoodIn wsX3_addVariant (va_wsS RX3 62 yX3_isValley wsX3_isValley) := goodIn_app (goodIn_of _ (by decide +kernel)) ggX3_addVariant_X3_isValley
set_option maxRecDepth 20000 in
theorem ggX3_addVariant_X3_fail : GoodIn wsX3_addVariant wsX3_fail := goodIn_r _ [22, 1, 32, 33, 34, 35, 36, 37, 38, 39, 40, 41, 42, 43, 44, 45] (by decide +kernel) (by decide +kernel)
set_option maxRecDepth 20000 in
theorem gX3_addVariant_X3_fail : GoodIn wsX3_addVariant (wsV RX3 65 RX3 yX3_fail wsX3_fail) := goodIn_app (goodIn_of _ (by decide +kernel)) ggX3_addVariant_X3_fail
set_option maxRecDepth 20000 in
theorem ggX3_addVariant_X3_has : GoodIn wsX3_addVariant wsX3_has := goodIn_r _ [25] (by decide +kernel) (by decide +kernel)
set_option maxRecDepth 20000 in
theorem gX3_addVariant_X3_has : GoodIn wsX3_addVariant (va_wsS RX3 51 yX3_has wsX3_has) := goodIn_app (goodIn_of _ (by decide +kernel)) ggX3_addVariant_X3_has
set_option maxRecDepth 20000 in
theorem ggX3_addVariant_X3_write : GoodIn wsX3_addVariant wsX3_write := goodIn_r _ [29, 4, 2, 3, 30, 31, 32, 33, 34, 35, 36, 37, 38, 39, 40, 41, 42, 43, 44, 45] (by decide +kernel) (by decide +kernel)
set_option maxRecDepth 20000 in
theorem gX3_addVariant_X3_write : GoodIn wsX3_addVariant (wsV RX3 69 RX3 yX3_write wsX3_write) := goodIn_app (goodIn_of _ (by decide +kernel)) ggX3_addVariant_X3_write
theorem dX3_addVariant_0 : decode cX3_addVariant 0 = .ok (.aload_n 0, 1) := by decide +kernel
theorem dX3_addVariant_1 : decode cX3_addVariant 1 = .ok (.iconst 0, 1) := by decide +kernel
theorem dX3_addVariant_2 : decode cX3_addVariant 2 = .ok (.putfield 40, 3) := by decide +kernel
theorem dX3_addVariant_5 : decode cX3_addVariant 5 = .ok (.aload_n 0, 1) := by decide +kernel
theorem dX3_addVariant_6 : decode cX3_addVariant 6 = .ok (.iload_n 1, 1) := by decide +kernel
theorem dX3_addVariant_7 : decode cX3_addVariant 7 = .ok (.invokevirtual 73, 3) := by decide +kernel
theorem dX3_addVariant_10 : decode cX3_addVariant 10 = .ok (.ifCond .eq 25, 3) := by decide +kernel
theorem dX3_addVariant_13 : decode cX3_addVariant 13 = .ok (.iload_n 2, 1) := by decide +kernel
theorem dX3_addVariant_14 : decode cX3_addVariant 14 = .ok (.invokestatic 59, 3) := by decide +kernel
theorem dX3_addVariant_17 : decode cX3_addVariant 17 = .ok (.ifCond .eq 18, 3) := by decide +kernel
theorem dX3_addVariant_20 : decode cX3_addVariant 20 = .ok (.iload_n 3, 1) := by decide +kernel
theorem dX3_addVariant_21 : decode cX3_addVariant 21 = .ok (.invokestatic 59, 3) := by decide +kernel
theorem dX3_addVariant_24 : decode cX3_addVariant 24 = .ok (.ifCond .eq 11, 3) := by decide +kernel
theorem dX3_addVariant_27 : decode cX3_addVariant 27 = .ok (.iload 4, 2) := by decide +kernel
theorem dX3_addVariant_29 : decode cX3_addVariant 29 = .ok (.invokestatic 62, 3) := by decide +kernel
theorem dX3_addVariant_32 : decode cX3_addVariant 32 = .ok (.ifCond .ne 9, 3) := by decide +kernel
theorem dX3_addVariant_35 : decode cX3_addVariant 35 = .ok (.aload_n 0, 1) := by decide +kernel
theorem dX3_addVariant_36 : decode cX3_addVariant 36 = .ok (.iconst 1, 1) := by decide +kernel
theorem dX3_addVariant_37 : decode cX3_addVariant 37 = .ok (.invokevirtual 65, 3) := by decide +kernel
theorem dX3_addVariant_40 : decode cX3_addVariant 40 = .ok (.ireturn, 1) := by decide +kernel
theorem dX3_addVariant_41 : decode cX3_addVariant 41 = .ok (.aload_n 0, 1) := by decide +kernel
theorem dX3_addVariant_42 : decode cX3_addVariant 42 = .ok (.getfield 44, 3) := by decide +kernel
theorem dX3_addVariant_45 : decode cX3_addVariant 45 = .ok (.bipush 20, 2) := by decide +kernel
theorem dX3_addVariant_47 : decode cX3_addVariant 47 = .ok (.if_icmp .eq 29, 3) := by decide +kernel
theorem dX3_addVariant_50 : decode cX3_addVariant 50 = .ok (.aload_n 0, 1) := by decide +kernel
theorem dX3_addVariant_51 : decode cX3_addVariant 51 = .ok (.getfield 13, 3) := by decide +kernel
theorem dX3_addVariant_54 : decode cX3_addVariant 54 = .ok (.iload_n 1, 1) := by decide +kernel
theorem dX3_addVariant_55 : decode cX3_addVariant 55 = .ok (.iaload, 1) := by decide +kernel
theorem dX3_addVariant_56 : decode cX3_addVariant 56 = .ok (.iload_n 2, 1) := by decide +kernel
theorem dX3_addVariant_57 : decode cX3_addVariant 57 = .ok (.invokestatic 51, 3) := by decide +kernel
theorem dX3_addVariant_60 : decode cX3_addVariant 60 = .ok (.ifCond .eq 16, 3) := by decide +kernel
theorem dX3_addVariant_63 : decode cX3_addVariant 63 = .ok (.aload_n 0, 1) := by decide +kernel
theorem dX3_addVariant_64 : decode cX3_addVariant 64 = .ok (.getfield 13, 3) := by decide +kernel
theorem dX3_addVariant_67 : decode cX3_addVariant 67 = .ok (.iload_n 1, 1) := by decide +kernel
theorem dX3_addVariant_68 : decode cX3_addVariant 68 = .ok (.iaload, 1) := by decide +kernel
theorem dX3_addVariant_69 : decode cX3_addVariant 69 = .ok (.iload_n 3, 1) := by decide +kernel
theorem dX3_addVariant_70 : decode cX3_addVariant 70 = .ok (.invokestatic 51, 3) := by decide +kernel
theorem dX3_addVariant_73 : decode cX3_addVariant 73 = .ok (.ifCond .eq 9, 3) := by decide +kernel
theorem dX3_addVariant_76 : decode cX3_addVariant 76 = .ok (.aload_n 0, 1) := by decide +kernel
theorem dX3_addVariant_77 : decode cX3_addVariant 77 = .ok (.iconst 2, 1) := by decide +kernel
theorem dX3_addVariant_78 : decode cX3_addVariant 78 = .ok (.invokevirtual 65, 3) := by decide +kernel
theorem dX3_addVariant_81 : decode cX3_addVariant 81 = .ok (.ireturn, 1) := by decide +kernel
theorem dX3_addVariant_82 : decode cX3_addVariant 82 = .ok (.aload_n 0, 1) := by decide +kernel
theorem dX3_addVariant_83 : decode cX3_addVariant 83 = .ok (.aload_n 0, 1) := by decide +kernel
theorem dX3_addVariant_84 : decode cX3_addVariant 84 = .ok (.getfield 9, 3) := by decide +kernel
theorem dX3_addVariant_87 : decode cX3_addVariant 87 = .ok (.iload_n 1, 1) := by decide +kernel
theorem dX3_addVariant_88 : decode cX3_addVariant 88 = .ok (.iaload, 1) := by decide +kernel
theorem dX3_addVariant_89 : decode cX3_addVariant 89 = .ok (.aload_n 0, 1) := by decide +kernel
theorem dX3_addVariant_90 : decode cX3_addVariant 90 = .ok (.getfield 13, 3) := by decide +kernel
theorem dX3_addVariant_93 : decode cX3_addVariant 93 = .ok (.iload_n 1, 1) := by decide +kernel
theorem dX3_addVariant_94 : decode cX3_addVariant 94 = .ok (.iaload, 1) := by decide +kernel
theorem dX3_addVariant_95 : decode cX3_addVariant 95 = .ok (.iconst 1, 1) := by decide +kernel
theorem dX3_addVariant_96 : decode cX3_addVariant 96 = .ok (.iload_n 2, 1) := by decide +kernel
theorem dX3_addVariant_97 : decode cX3_addVariant 97 = .ok (.ishl, 1) := by decide +kernel
theorem dX3_addVariant_98 : decode cX3_addVariant 98 = .ok (.iconst (-1), 1) := by decide +kernel
theorem dX3_addVariant_99 : decode cX3_addVariant 99 = .ok (.ixor, 1) := by decide +kernel
theorem dX3_addVariant_100 : decode cX3_addVariant 100 = .ok (.iand, 1) := by decide +kernel
theorem dX3_addVariant_101 : decode cX3_addVariant 101 = .ok (.iconst 1, 1) := by decide +kernel
theorem dX3_addVariant_102 : decode cX3_addVariant 102 = .ok (.iload_n 3, 1) := by decide +kernel
theorem dX3_addVariant_103 : decode cX3_addVariant 103 = .ok (.ishl, 1) := by decide +kernel
theorem dX3_addVariant_104 : decode cX3_addVariant 104 = .ok (.ior, 1) := by decide +kernel
theorem dX3_addVariant_105 : decode cX3_addVariant 105 = .ok (.iload 4, 2) := by decide +kernel
theorem dX3_addVariant_107 : decode cX3_addVariant 107 = .ok (.iload_n 1, 1) := by decide +kernel
theorem dX3_addVariant_108 : decode cX3_addVariant 108 = .ok (.invokevirtual 69, 3) := by decide +kernel
theorem dX3_addVariant_111 : decode cX3_addVariant 111 = .ok (.ireturn, 1) := by decide +kernel
set_option maxRecDepth 20000 in
theorem ggX3_turnPass_X3_isValley : GoodIn wsX3_turnPass wsX3_isValley := goodIn_r _ [6, 7, 8, 5, 9] (by decide +kernel) (by decide +kernel)
set_option maxRecDepth 20000 in
theorem gX3_turnPass_X3_isValley : GoodIn wsX3_turnPass (va_wsS RX3 62 yX3_isValley wsX3_isValley) := goodIn_app (goodIn_of _ (by decide +kernel)) ggX3_turnPass_X3_isValley
set_option maxRecDepth 20000 in
theorem ggX3_turnPass_X3_failed : GoodIn wsX3_turnPass wsX3_failed := goodIn_r _ [13, 1, 17, 18, 19, 20, 21, 22, 23, 24, 25, 26, 27, 28, 29, 30] (by decide +kernel) (by decide +kernel)
set_option maxRecDepth 20000 in
theorem gX3_turnPass_X3_failed : GoodIn wsX3_turnPass (wsV RX3 82 RX3 yX3_failed wsX3_failed) := goodIn_app (goodIn_of _ (by decide +kernel)) ggX3_turnPass_X3_failed
set_option maxRecDepth 20000 in
theorem ggX3_turnPass_X3_has : GoodIn wsX3_turnPass wsX3_has := goodIn_r _ [16] (by decide +kernel) (by decide +kernel)
set_option maxRecDepth 20000 in
theorem gX3_turnPass_X3_has : GoodIn wsX3_turnPass (va_wsS RX3 51 yX3_has wsX3_has) := goodIn_app (goodIn_of _ (by decide +kernel)) ggX3_turnPass_X3_has
theorem dX3_turnPass_0 : decode cX3_turnPass 0 = .ok (.aload_n 0, 1) := by decide +kernel
theorem dX3_turnPass_1 : decode cX3_turnPass 1 = .ok (.iconst 0, 1) := by decide +kernel
theorem dX3_turnPass_2 : decode cX3_turnPass 2 = .ok (.putfield 40, 3) := by decide +kernel
theorem dX3_turnPass_5 : decode cX3_turnPass 5 = .ok (.iload_n 1, 1) := by decide +kernel
theorem dX3_turnPass_6 : decode cX3_turnPass 6 = .ok (.invokestatic 62, 3) := by decide +kernel
theorem dX3_turnPass_9 : decode cX3_turnPass 9 = .ok (.ifCond .eq 10, 3) := by decide +kernel
theorem dX3_turnPass_12 : decode cX3_turnPass 12 = .ok (.iload_n 2, 1) := by decide +kernel
theorem dX3_turnPass_13 : decode cX3_turnPass 13 = .ok (.invokestatic 62, 3) := by decide +kernel
theorem dX3_turnPass_16 : decode cX3_turnPass 16 = .ok (.ifCond .ne 9, 3) := by decide +kernel
theorem dX3_turnPass_19 : decode cX3_turnPass 19 = .ok (.aload_n 0, 1) := by decide +kernel
theorem dX3_turnPass_20 : decode cX3_turnPass 20 = .ok (.iconst 1, 1) := by decide +kernel
theorem dX3_turnPass_21 : decode cX3_turnPass 21 = .ok (.invokevirtual 82, 3) := by decide +kernel
theorem dX3_turnPass_24 : decode cX3_turnPass 24 = .ok (.ireturn, 1) := by decide +kernel
theorem dX3_turnPass_25 : decode cX3_turnPass 25 = .ok (.iload_n 1, 1) := by decide +kernel
theorem dX3_turnPass_26 : decode cX3_turnPass 26 = .ok (.iload_n 2, 1) := by decide +kernel
theorem dX3_turnPass_27 : decode cX3_turnPass 27 = .ok (.if_icmp .ne 9, 3) := by decide +kernel
theorem dX3_turnPass_30 : decode cX3_turnPass 30 = .ok (.aload_n 0, 1) := by decide +kernel
theorem dX3_turnPass_31 : decode cX3_turnPass 31 = .ok (.iconst 2, 1) := by decide +kernel
theorem dX3_turnPass_32 : decode cX3_turnPass 32 = .ok (.invokevirtual 82, 3) := by decide +kernel
theorem dX3_turnPass_35 : decode cX3_turnPass 35 = .ok (.ireturn, 1) := by decide +kernel
theorem dX3_turnPass_36 : decode cX3_turnPass 36 = .ok (.aload_n 0, 1) := by decide +kernel
theorem dX3_turnPass_37 : decode cX3_turnPass 37 = .ok (.getfield 31, 3) := by decide +kernel
theorem dX3_turnPass_40 : decode cX3_turnPass 40 = .ok (.iload_n 1, 1) := by decide +kernel
theorem dX3_turnPass_41 : decode cX3_turnPass 41 = .ok (.dup2, 1) := by decide +kernel
theorem dX3_turnPass_42 : decode cX3_turnPass 42 = .ok (.iaload, 1) := by decide +kernel
theorem dX3_turnPass_43 : decode cX3_turnPass 43 = .ok (.iconst 1, 1) := by decide +kernel
theorem dX3_turnPass_44 : decode cX3_turnPass 44 = .ok (.iload_n 2, 1) := by decide +kernel
theorem dX3_turnPass_45 : decode cX3_turnPass 45 = .ok (.ishl, 1) := by decide +kernel
theorem dX3_turnPass_46 : decode cX3_turnPass 46 = .ok (.ixor, 1) := by decide +kernel
theorem dX3_turnPass_47 : decode cX3_turnPass 47 = .ok (.iastore, 1) := by decide +kernel
theorem dX3_turnPass_48 : decode cX3_turnPass 48 = .ok (.aload_n 0, 1) := by decide +kernel
theorem dX3_turnPass_49 : decode cX3_turnPass 49 = .ok (.getfield 31, 3) := by decide +kernel
theorem dX3_turnPass_52 : decode cX3_turnPass 52 = .ok (.iload_n 2, 1) := by decide +kernel
theorem dX3_turnPass_53 : decode cX3_turnPass 53 = .ok (.dup2, 1) := by decide +kernel
theorem dX3_turnPass_54 : decode cX3_turnPass 54 = .ok (.iaload, 1) := by decide +kernel
theorem dX3_turnPass_55 : decode cX3_turnPass 55 = .ok (.iconst 1, 1) := by decide +kernel
theorem dX3_turnPass_56 : decode cX3_turnPass 56 = .ok (.iload_n 1, 1) := by decide +kernel
theorem dX3_turnPass_57 : decode cX3_turnPass 57 = .ok (.ishl, 1) := by decide +kernel
theorem dX3_turnPass_58 : decode cX3_turnPass 58 = .ok (.ixor, 1) := by decide +kernel
theorem dX3_turnPass_59 : decode cX3_turnPass 59 = .ok (.iastore, 1) := by decide +kernel
theorem dX3_turnPass_60 : decode cX3_turnPass 60 = .ok (.aload_n 0, 1) := by decide +kernel
theorem dX3_turnPass_61 : decode cX3_turnPass 61 = .ok (.getfield 31, 3) := by decide +kernel
theorem dX3_turnPass_64 : decode cX3_turnPass 64 = .ok (.iload_n 1, 1) := by decide +kernel
theorem dX3_turnPass_65 : decode cX3_turnPass 65 = .ok (.iaload, 1) := by decide +kernel
theorem dX3_turnPass_66 : decode cX3_turnPass 66 = .ok (.iload_n 2, 1) := by decide +kernel
theorem dX3_turnPass_67 : decode cX3_turnPass 67 = .ok (.invokestatic 51, 3) := by decide +kernel
theorem dX3_turnPass_70 : decode cX3_turnPass 70 = .ok (.ireturn, 1) := by decide +kernel
set_option maxRecDepth 20000 in
theorem ggX3_turnMoral_X3_isValley : GoodIn wsX3_turnMoral wsX3_isValley := goodIn_r _ [6, 7, 8, 5, 9] (by decide +kernel) (by decide +kernel)
set_option maxRecDepth 20000 in
theorem gX3_turnMoral_X3_isValley : GoodIn wsX3_turnMoral (va_wsS RX3 62 yX3_isValley wsX3_isValley) := goodIn_app (goodIn_of _ (by decide +kernel)) ggX3_turnMoral_X3_isValley
set_option maxRecDepth 20000 in
theorem ggX3_turnMoral_X3_isMoral : GoodIn wsX3_turnMoral wsX3_isMoral := goodIn_r _ [12, 7, 8, 5, 9] (by decide +kernel) (by decide +kernel)
set_option maxRecDepth 20000 in
theorem gX3_turnMoral_X3_isMoral : GoodIn wsX3_turnMoral (va_wsS RX3 55 yX3_isMoral wsX3_isMoral) := goodIn_app (goodIn_of _ (by decide +kernel)) ggX3_turnMoral_X3_isMoral
set_option maxRecDepth 20000 in
theorem ggX3_turnMoral_X3_failed : GoodIn wsX3_turnMoral wsX3_failed := goodIn_r _ [16, 1, 20, 21, 22, 23, 24, 25, 26, 27, 28, 29, 30, 31, 32, 33] (by decide +kernel) (by decide +kernel)
set_option maxRecDepth 20000 in
theorem gX3_turnMoral_X3_failed : GoodIn wsX3_turnMoral (wsV RX3 82 RX3 yX3_failed wsX3_failed) := goodIn_app (goodIn_of _ (by decide +kernel)) ggX3_turnMoral_X3_failed
set_option maxRecDepth 20000 in
theorem ggX3_turnMoral_X3_has : GoodIn wsX3_turnMoral wsX3_has := goodIn_r _ [19] (by decide +kernel) (by decide +kernel)
set_option maxRecDepth 20000 in
theorem gX3_turnMoral_X3_has : GoodIn wsX3_turnMoral (va_wsS RX3 51 yX3_has wsX3_has) := goodIn_app (goodIn_of _ (by decide +kernel)) ggX3_turnMoral_X3_has
theorem dX3_turnMoral_0 : decode cX3_turnMoral 0 = .ok (.aload_n 0, 1) := by decide +kernel
theorem dX3_turnMoral_1 : decode cX3_turnMoral 1 = .ok (.iconst 0, 1) := by decide +kernel
theorem dX3_turnMoral_2 : decode cX3_turnMoral 2 = .ok (.putfield 40, 3) := by decide +kernel
theorem dX3_turnMoral_5 : decode cX3_turnMoral 5 = .ok (.iload_n 1, 1) := by decide +kernel
theorem dX3_turnMoral_6 : decode cX3_turnMoral 6 = .ok (.invokestatic 62, 3) := by decide +kernel
theorem dX3_turnMoral_9 : decode cX3_turnMoral 9 = .ok (.ifCond .eq 10, 3) := by decide +kernel
theorem dX3_turnMoral_12 : decode cX3_turnMoral 12 = .ok (.iload_n 2, 1) := by decide +kernel
theorem dX3_turnMoral_13 : decode cX3_turnMoral 13 = .ok (.invokestatic 55, 3) := by decide +kernel
theorem dX3_turnMoral_16 : decode cX3_turnMoral 16 = .ok (.ifCond .ne 9, 3) := by decide +kernel
theorem dX3_turnMoral_19 : decode cX3_turnMoral 19 = .ok (.aload_n 0, 1) := by decide +kernel
theorem dX3_turnMoral_20 : decode cX3_turnMoral 20 = .ok (.iconst 1, 1) := by decide +kernel
theorem dX3_turnMoral_21 : decode cX3_turnMoral 21 = .ok (.invokevirtual 82, 3) := by decide +kernel
theorem dX3_turnMoral_24 : decode cX3_turnMoral 24 = .ok (.ireturn, 1) := by decide +kernel
theorem dX3_turnMoral_25 : decode cX3_turnMoral 25 = .ok (.aload_n 0, 1) := by decide +kernel
theorem dX3_turnMoral_26 : decode cX3_turnMoral 26 = .ok (.getfield 25, 3) := by decide +kernel
theorem dX3_turnMoral_29 : decode cX3_turnMoral 29 = .ok (.iload_n 1, 1) := by decide +kernel
theorem dX3_turnMoral_30 : decode cX3_turnMoral 30 = .ok (.dup2, 1) := by decide +kernel
theorem dX3_turnMoral_31 : decode cX3_turnMoral 31 = .ok (.iaload, 1) := by decide +kernel
theorem dX3_turnMoral_32 : decode cX3_turnMoral 32 = .ok (.iconst 1, 1) := by decide +kernel
theorem dX3_turnMoral_33 : decode cX3_turnMoral 33 = .ok (.iload_n 2, 1) := by decide +kernel
theorem dX3_turnMoral_34 : decode cX3_turnMoral 34 = .ok (.ishl, 1) := by decide +kernel
theorem dX3_turnMoral_35 : decode cX3_turnMoral 35 = .ok (.ixor, 1) := by decide +kernel
theorem dX3_turnMoral_36 : decode cX3_turnMoral 36 = .ok (.iastore, 1) := by decide +kernel
theorem dX3_turnMoral_37 : decode cX3_turnMoral 37 = .ok (.aload_n 0, 1) := by decide +kernel
theorem dX3_turnMoral_38 : decode cX3_turnMoral 38 = .ok (.getfield 25, 3) := by decide +kernel
theorem dX3_turnMoral_41 : decode cX3_turnMoral 41 = .ok (.iload_n 1, 1) := by decide +kernel
theorem dX3_turnMoral_42 : decode cX3_turnMoral 42 = .ok (.iaload, 1) := by decide +kernel
theorem dX3_turnMoral_43 : decode cX3_turnMoral 43 = .ok (.iload_n 2, 1) := by decide +kernel
theorem dX3_turnMoral_44 : decode cX3_turnMoral 44 = .ok (.invokestatic 51, 3) := by decide +kernel
theorem dX3_turnMoral_47 : decode cX3_turnMoral 47 = .ok (.ireturn, 1) := by decide +kernel
set_option maxRecDepth 20000 in
theorem ggX3_turnBeast_X3_isValley : GoodIn wsX3_turnBeast wsX3_isValley := goodIn_r _ [6, 7, 8, 5, 9] (by decide +kernel) (by decide +kernel)
set_option maxRecDepth 20000 in
theorem gX3_turnBeast_X3_isValley : GoodIn wsX3_turnBeast (va_wsS RX3 62 yX3_isValley wsX3_isValley) := goodIn_app (goodIn_of _ (by decide +kernel)) ggX3_turnBeast_X3_isValley
set_option maxRecDepth 20000 in
theorem ggX3_turnBeast_X3_isBeast : GoodIn wsX3_turnBeast wsX3_isBeast := goodIn_r _ [12, 7, 8, 5, 9] (by decide +kernel) (by decide +kernel)
set_option maxRecDepth 20000 in
theorem gX3_turnBeast_X3_isBeast : GoodIn wsX3_turnBeast (va_wsS RX3 59 yX3_isBeast wsX3_isBeast) := goodIn_app (goodIn_of _ (by decide +kernel)) ggX3_turnBeast_X3_isBeast
set_option maxRecDepth 20000 in
theorem ggX3_turnBeast_X3_failed : GoodIn wsX3_turnBeast wsX3_failed := goodIn_r _ [16, 1, 20, 21, 22, 23, 24, 25, 26, 27, 28, 29, 30, 31, 32, 33] (by decide +kernel) (by decide +kernel)
set_option maxRecDepth 20000 in
theorem gX3_turnBeast_X3_failed : GoodIn wsX3_turnBeast (wsV RX3 82 RX3 yX3_failed wsX3_failed) := goodIn_app (goodIn_of _ (by decide +kernel)) ggX3_turnBeast_X3_failed
set_option maxRecDepth 20000 in
theorem ggX3_turnBeast_X3_has : GoodIn wsX3_turnBeast wsX3_has := goodIn_r _ [19] (by decide +kernel) (by decide +kernel)
set_option maxRecDepth 20000 in
theorem gX3_turnBeast_X3_has : GoodIn wsX3_turnBeast (va_wsS RX3 51 yX3_has wsX3_has) := goodIn_app (goodIn_of _ (by decide +kernel)) ggX3_turnBeast_X3_has
theorem dX3_turnBeast_0 : decode cX3_turnBeast 0 = .ok (.aload_n 0, 1) := by decide +kernel
theorem dX3_turnBeast_1 : decode cX3_turnBeast 1 = .ok (.iconst 0, 1) := by decide +kernel
theorem dX3_turnBeast_2 : decode cX3_turnBeast 2 = .ok (.putfield 40, 3) := by decide +kernel
theorem dX3_turnBeast_5 : decode cX3_turnBeast 5 = .ok (.iload_n 1, 1) := by decide +kernel
theorem dX3_turnBeast_6 : decode cX3_turnBeast 6 = .ok (.invokestatic 62, 3) := by decide +kernel
theorem dX3_turnBeast_9 : decode cX3_turnBeast 9 = .ok (.ifCond .eq 10, 3) := by decide +kernel
theorem dX3_turnBeast_12 : decode cX3_turnBeast 12 = .ok (.iload_n 2, 1) := by decide +kernel
theorem dX3_turnBeast_13 : decode cX3_turnBeast 13 = .ok (.invokestatic 59, 3) := by decide +kernel
theorem dX3_turnBeast_16 : decode cX3_turnBeast 16 = .ok (.ifCond .ne 9, 3) := by decide +kernel
theorem dX3_turnBeast_19 : decode cX3_turnBeast 19 = .ok (.aload_n 0, 1) := by decide +kernel
theorem dX3_turnBeast_20 : decode cX3_turnBeast 20 = .ok (.iconst 1, 1) := by decide +kernel
theorem dX3_turnBeast_21 : decode cX3_turnBeast 21 = .ok (.invokevirtual 82, 3) := by decide +kernel
theorem dX3_turnBeast_24 : decode cX3_turnBeast 24 = .ok (.ireturn, 1) := by decide +kernel
theorem dX3_turnBeast_25 : decode cX3_turnBeast 25 = .ok (.aload_n 0, 1) := by decide +kernel
theorem dX3_turnBeast_26 : decode cX3_turnBeast 26 = .ok (.getfield 28, 3) := by decide +kernel
theorem dX3_turnBeast_29 : decode cX3_turnBeast 29 = .ok (.iload_n 1, 1) := by decide +kernel
theorem dX3_turnBeast_30 : decode cX3_turnBeast 30 = .ok (.dup2, 1) := by decide +kernel
theorem dX3_turnBeast_31 : decode cX3_turnBeast 31 = .ok (.iaload, 1) := by decide +kernel
theorem dX3_turnBeast_32 : decode cX3_turnBeast 32 = .ok (.iconst 1, 1) := by decide +kernel
theorem dX3_turnBeast_33 : decode cX3_turnBeast 33 = .ok (.iload_n 2, 1) := by decide +kernel
theorem dX3_turnBeast_34 : decode cX3_turnBeast 34 = .ok (.ishl, 1) := by decide +kernel
theorem dX3_turnBeast_35 : decode cX3_turnBeast 35 = .ok (.ixor, 1) := by decide +kernel
theorem dX3_turnBeast_36 : decode cX3_turnBeast 36 = .ok (.iastore, 1) := by decide +kernel
theorem dX3_turnBeast_37 : decode cX3_turnBeast 37 = .ok (.aload_n 0, 1) := by decide +kernel
theorem dX3_turnBeast_38 : decode cX3_turnBeast 38 = .ok (.getfield 28, 3) := by decide +kernel
theorem dX3_turnBeast_41 : decode cX3_turnBeast 41 = .ok (.iload_n 1, 1) := by decide +kernel
theorem dX3_turnBeast_42 : decode cX3_turnBeast 42 = .ok (.iaload, 1) := by decide +kernel
theorem dX3_turnBeast_43 : decode cX3_turnBeast 43 = .ok (.iload_n 2, 1) := by decide +kernel
theorem dX3_turnBeast_44 : decode cX3_turnBeast 44 = .ok (.invokestatic 51, 3) := by decide +kernel
theorem dX3_turnBeast_47 : decode cX3_turnBeast 47 = .ok (.ireturn, 1) := by decide +kernel
set_option maxRecDepth 20000 in
theorem ggX3_isPlace_X3_isFable : GoodIn wsX3_isPlace wsX3_isFable := goodIn_r _ [5, 6, 7, 8, 4, 9, 13, 14, 15, 16, 17, 18, 19, 20, 21, 22, 23, 24, 25, 26] (by decide +kernel) (by decide +kernel)
set_option maxRecDepth 20000 in
theorem gX3_isPlace_X3_isFable : GoodIn wsX3_isPlace (wsV RX3 73 RX3 yX3_isFable wsX3_isFable) := goodIn_app (goodIn_of _ (by decide +kernel)) ggX3_isPlace_X3_isFable
set_option maxRecDepth 20000 in
theorem ggX3_isPlace_X3_isValley : GoodIn wsX3_isPlace wsX3_isValley := goodIn_r _ [12, 7, 8, 4, 9] (by decide +kernel) (by decide +kernel)
set_option maxRecDepth 20000 in
theorem gX3_isPlace_X3_isValley : GoodIn wsX3_isPlace (va_wsS RX3 62 yX3_isValley wsX3_isValley) := goodIn_app (goodIn_of _ (by decide +kernel)) ggX3_isPlace_X3_isValley
theorem dX3_isPlace_0 : decode cX3_isPlace 0 = .ok (.aload_n 0, 1) := by decide +kernel
theorem dX3_isPlace_1 : decode cX3_isPlace 1 = .ok (.iload_n 1, 1) := by decide +kernel
theorem dX3_isPlace_2 : decode cX3_isPlace 2 = .ok (.invokevirtual 73, 3) := by decide +kernel
theorem dX3_isPlace_5 : decode cX3_isPlace 5 = .ok (.ifCond .eq 14, 3) := by decide +kernel
theorem dX3_isPlace_8 : decode cX3_isPlace 8 = .ok (.iload_n 2, 1) := by decide +kernel
theorem dX3_isPlace_9 : decode cX3_isPlace 9 = .ok (.invokestatic 62, 3) := by decide +kernel
theorem dX3_isPlace_12 : decode cX3_isPlace 12 = .ok (.ifCond .eq 7, 3) := by decide +kernel
theorem dX3_isPlace_15 : decode cX3_isPlace 15 = .ok (.iconst 1, 1) := by decide +kernel
theorem dX3_isPlace_16 : decode cX3_isPlace 16 = .ok (.goto 4, 3) := by decide +kernel
theorem dX3_isPlace_19 : decode cX3_isPlace 19 = .ok (.iconst 0, 1) := by decide +kernel
theorem dX3_isPlace_20 : decode cX3_isPlace 20 = .ok (.ireturn, 1) := by decide +kernel
set_option maxRecDepth 20000 in
theorem ggX3_placesOf_X3_has : GoodIn wsX3_placesOf wsX3_has := goodIn_r _ [5] (by decide +kernel) (by decide +kernel)
set_option maxRecDepth 20000 in
theorem gX3_placesOf_X3_has : GoodIn wsX3_placesOf (va_wsS RX3 51 yX3_has wsX3_has) := goodIn_app (goodIn_of _ (by decide +kernel)) ggX3_placesOf_X3_has
theorem dX3_placesOf_0 : decode cX3_placesOf 0 = .ok (.iconst 0, 1) := by decide +kernel
theorem dX3_placesOf_1 : decode cX3_placesOf 1 = .ok (.istore_n 2, 1) := by decide +kernel
theorem dX3_placesOf_2 : decode cX3_placesOf 2 = .ok (.iconst 0, 1) := by decide +kernel
theorem dX3_placesOf_3 : decode cX3_placesOf 3 = .ok (.istore_n 3, 1) := by decide +kernel
theorem dX3_placesOf_4 : decode cX3_placesOf 4 = .ok (.iload_n 3, 1) := by decide +kernel
theorem dX3_placesOf_5 : decode cX3_placesOf 5 = .ok (.bipush 6, 2) := by decide +kernel
theorem dX3_placesOf_7 : decode cX3_placesOf 7 = .ok (.if_icmp .ge 30, 3) := by decide +kernel
theorem dX3_placesOf_10 : decode cX3_placesOf 10 = .ok (.iload_n 2, 1) := by decide +kernel
theorem dX3_placesOf_11 : decode cX3_placesOf 11 = .ok (.aload_n 0, 1) := by decide +kernel
theorem dX3_placesOf_12 : decode cX3_placesOf 12 = .ok (.getfield 22, 3) := by decide +kernel
theorem dX3_placesOf_15 : decode cX3_placesOf 15 = .ok (.iload_n 3, 1) := by decide +kernel
theorem dX3_placesOf_16 : decode cX3_placesOf 16 = .ok (.iaload, 1) := by decide +kernel
theorem dX3_placesOf_17 : decode cX3_placesOf 17 = .ok (.iload_n 1, 1) := by decide +kernel
theorem dX3_placesOf_18 : decode cX3_placesOf 18 = .ok (.invokestatic 51, 3) := by decide +kernel
theorem dX3_placesOf_21 : decode cX3_placesOf 21 = .ok (.ifCond .eq 7, 3) := by decide +kernel
theorem dX3_placesOf_24 : decode cX3_placesOf 24 = .ok (.iconst 1, 1) := by decide +kernel
theorem dX3_placesOf_25 : decode cX3_placesOf 25 = .ok (.goto 4, 3) := by decide +kernel
theorem dX3_placesOf_28 : decode cX3_placesOf 28 = .ok (.iconst 0, 1) := by decide +kernel
theorem dX3_placesOf_29 : decode cX3_placesOf 29 = .ok (.iadd, 1) := by decide +kernel
theorem dX3_placesOf_30 : decode cX3_placesOf 30 = .ok (.istore_n 2, 1) := by decide +kernel
theorem dX3_placesOf_31 : decode cX3_placesOf 31 = .ok (.iinc 3 1, 3) := by decide +kernel
theorem dX3_placesOf_34 : decode cX3_placesOf 34 = .ok (.goto (-30), 3) := by decide +kernel
theorem dX3_placesOf_37 : decode cX3_placesOf 37 = .ok (.iload_n 2, 1) := by decide +kernel
theorem dX3_placesOf_38 : decode cX3_placesOf 38 = .ok (.ireturn, 1) := by decide +kernel
set_option maxRecDepth 20000 in
theorem ggX3_tell_X3_isPlace : GoodIn wsX3_tell wsX3_isPlace := goodIn_r _ [7, 8, 9, 10, 6, 11, 12, 13, 14, 15, 16, 17, 18, 38, 39, 40, 41, 42, 43, 44, 45, 46, 47, 48, 49, 50, 51] (by decide +kernel) (by decide +kernel)
set_option maxRecDepth 20000 in
theorem gX3_tell_X3_isPlace : GoodIn wsX3_tell (wsV RX3 85 RX3 yX3_isPlace wsX3_isPlace) := goodIn_app (goodIn_of _ (by decide +kernel)) ggX3_tell_X3_isPlace
set_option maxRecDepth 20000 in
theorem ggX3_tell_X3_fail : GoodIn wsX3_tell wsX3_fail := goodIn_r _ [22, 1, 38, 39, 40, 41, 42, 43, 44, 45, 46, 47, 48, 49, 50, 51] (by decide +kernel) (by decide +kernel)
set_option maxRecDepth 20000 in
theorem gX3_tell_X3_fail : GoodIn wsX3_tell (wsV RX3 65 RX3 yX3_fail wsX3_fail) := goodIn_app (goodIn_of _ (by decide +kernel)) ggX3_tell_X3_fail
set_option maxRecDepth 20000 in
theorem ggX3_tell_X3_has : GoodIn wsX3_tell wsX3_has := goodIn_r _ [25] (by decide +kernel) (by decide +kernel)
set_option maxRecDepth 20000 in
theorem gX3_tell_X3_has : GoodIn wsX3_tell (va_wsS RX3 51 yX3_has wsX3_has) := goodIn_app (goodIn_of _ (by decide +kernel)) ggX3_tell_X3_has
set_option maxRecDepth 20000 in
theorem ggX3_tell_X3_banned : GoodIn wsX3_tell wsX3_banned := goodIn_r _ [29, 30, 31, 32, 33, 23, 24, 6, 25, 38, 39, 40, 41, 42, 43, 44, 45, 46, 47, 48, 49, 50, 51] (by decide +kernel) (by decide +kernel)
set_option maxRecDepth 20000 in
theorem gX3_tell_X3_banned : GoodIn wsX3_tell (wsV RX3 88 RX3 yX3_banned wsX3_banned) := goodIn_app (goodIn_of _ (by decide +kernel)) ggX3_tell_X3_banned
set_option maxRecDepth 20000 in
theorem ggX3_tell_X3_placesOf : GoodIn wsX3_tell wsX3_placesOf := goodIn_r _ [37, 2, 23, 24, 6, 25, 38, 39, 40, 41, 42, 43, 44, 45, 46, 47, 48, 49, 50, 51] (by decide +kernel) (by decide +kernel)
set_option maxRecDepth 20000 in
theorem gX3_tell_X3_placesOf : GoodIn wsX3_tell (wsV RX3 91 RX3 yX3_placesOf wsX3_placesOf) := goodIn_app (goodIn_of _ (by decide +kernel)) ggX3_tell_X3_placesOf
theorem dX3_tell_0 : decode cX3_tell 0 = .ok (.aload_n 0, 1) := by decide +kernel
theorem dX3_tell_1 : decode cX3_tell 1 = .ok (.iconst 0, 1) := by decide +kernel
theorem dX3_tell_2 : decode cX3_tell 2 = .ok (.putfield 40, 3) := by decide +kernel
theorem dX3_tell_5 : decode cX3_tell 5 = .ok (.aload_n 0, 1) := by decide +kernel
theorem dX3_tell_6 : decode cX3_tell 6 = .ok (.iload_n 1, 1) := by decide +kernel
theorem dX3_tell_7 : decode cX3_tell 7 = .ok (.iload_n 2, 1) := by decide +kernel
theorem dX3_tell_8 : decode cX3_tell 8 = .ok (.invokevirtual 85, 3) := by decide +kernel
theorem dX3_tell_11 : decode cX3_tell 11 = .ok (.ifCond .ne 9, 3) := by decide +kernel
theorem dX3_tell_14 : decode cX3_tell 14 = .ok (.aload_n 0, 1) := by decide +kernel
theorem dX3_tell_15 : decode cX3_tell 15 = .ok (.iconst 1, 1) := by decide +kernel
theorem dX3_tell_16 : decode cX3_tell 16 = .ok (.invokevirtual 65, 3) := by decide +kernel
theorem dX3_tell_19 : decode cX3_tell 19 = .ok (.ireturn, 1) := by decide +kernel
theorem dX3_tell_20 : decode cX3_tell 20 = .ok (.aload_n 0, 1) := by decide +kernel
theorem dX3_tell_21 : decode cX3_tell 21 = .ok (.getfield 22, 3) := by decide +kernel
theorem dX3_tell_24 : decode cX3_tell 24 = .ok (.iload_n 2, 1) := by decide +kernel
theorem dX3_tell_25 : decode cX3_tell 25 = .ok (.iaload, 1) := by decide +kernel
theorem dX3_tell_26 : decode cX3_tell 26 = .ok (.iload_n 1, 1) := by decide +kernel
theorem dX3_tell_27 : decode cX3_tell 27 = .ok (.invokestatic 51, 3) := by decide +kernel
theorem dX3_tell_30 : decode cX3_tell 30 = .ok (.ifCond .ne 12, 3) := by decide +kernel
theorem dX3_tell_33 : decode cX3_tell 33 = .ok (.aload_n 0, 1) := by decide +kernel
theorem dX3_tell_34 : decode cX3_tell 34 = .ok (.iload_n 1, 1) := by decide +kernel
theorem dX3_tell_35 : decode cX3_tell 35 = .ok (.iload_n 2, 1) := by decide +kernel
theorem dX3_tell_36 : decode cX3_tell 36 = .ok (.invokevirtual 88, 3) := by decide +kernel
theorem dX3_tell_39 : decode cX3_tell 39 = .ok (.ifCond .eq 9, 3) := by decide +kernel
theorem dX3_tell_42 : decode cX3_tell 42 = .ok (.aload_n 0, 1) := by decide +kernel
theorem dX3_tell_43 : decode cX3_tell 43 = .ok (.iconst 2, 1) := by decide +kernel
theorem dX3_tell_44 : decode cX3_tell 44 = .ok (.invokevirtual 65, 3) := by decide +kernel
theorem dX3_tell_47 : decode cX3_tell 47 = .ok (.ireturn, 1) := by decide +kernel
theorem dX3_tell_48 : decode cX3_tell 48 = .ok (.aload_n 0, 1) := by decide +kernel
theorem dX3_tell_49 : decode cX3_tell 49 = .ok (.getfield 22, 3) := by decide +kernel
theorem dX3_tell_52 : decode cX3_tell 52 = .ok (.iload_n 2, 1) := by decide +kernel
theorem dX3_tell_53 : decode cX3_tell 53 = .ok (.dup2, 1) := by decide +kernel
theorem dX3_tell_54 : decode cX3_tell 54 = .ok (.iaload, 1) := by decide +kernel
theorem dX3_tell_55 : decode cX3_tell 55 = .ok (.iconst 1, 1) := by decide +kernel
theorem dX3_tell_56 : decode cX3_tell 56 = .ok (.iload_n 1, 1) := by decide +kernel
theorem dX3_tell_57 : decode cX3_tell 57 = .ok (.ishl, 1) := by decide +kernel
theorem dX3_tell_58 : decode cX3_tell 58 = .ok (.ior, 1) := by decide +kernel
theorem dX3_tell_59 : decode cX3_tell 59 = .ok (.iastore, 1) := by decide +kernel
theorem dX3_tell_60 : decode cX3_tell 60 = .ok (.aload_n 0, 1) := by decide +kernel
theorem dX3_tell_61 : decode cX3_tell 61 = .ok (.iload_n 1, 1) := by decide +kernel
theorem dX3_tell_62 : decode cX3_tell 62 = .ok (.invokevirtual 91, 3) := by decide +kernel
theorem dX3_tell_65 : decode cX3_tell 65 = .ok (.ireturn, 1) := by decide +kernel
set_option maxRecDepth 20000 in
theorem ggX3_forget_X3_isPlace : GoodIn wsX3_forget wsX3_isPlace := goodIn_r _ [7, 8, 9, 10, 6, 11, 12, 13, 14, 15, 16, 17, 18, 30, 31, 32, 33, 34, 35, 36, 37, 38, 39, 40, 41, 42, 43] (by decide +kernel) (by decide +kernel)
set_option maxRecDepth 20000 in
theorem gX3_forget_X3_isPlace : GoodIn wsX3_forget (wsV RX3 85 RX3 yX3_isPlace wsX3_isPlace) := goodIn_app (goodIn_of _ (by decide +kernel)) ggX3_forget_X3_isPlace
set_option maxRecDepth 20000 in
theorem ggX3_forget_X3_fail : GoodIn wsX3_forget wsX3_fail := goodIn_r _ [22, 1, 30, 31, 32, 33, 34, 35, 36, 37, 38, 39, 40, 41, 42, 43] (by decide +kernel) (by decide +kernel)
set_option maxRecDepth 20000 in
theorem gX3_forget_X3_fail : GoodIn wsX3_forget (wsV RX3 65 RX3 yX3_fail wsX3_fail) := goodIn_app (goodIn_of _ (by decide +kernel)) ggX3_forget_X3_fail
set_option maxRecDepth 20000 in
theorem ggX3_forget_X3_has : GoodIn wsX3_forget wsX3_has := goodIn_r _ [25] (by decide +kernel) (by decide +kernel)
set_option maxRecDepth 20000 in
theorem gX3_forget_X3_has : GoodIn wsX3_forget (va_wsS RX3 51 yX3_has wsX3_has) := goodIn_app (goodIn_of _ (by decide +kernel)) ggX3_forget_X3_has
set_option maxRecDepth 20000 in
theorem ggX3_forget_X3_placesOf : GoodIn wsX3_forget wsX3_placesOf := goodIn_r _ [29, 2, 23, 24, 6, 25, 30, 31, 32, 33, 34, 35, 36, 37, 38, 39, 40, 41, 42, 43] (by decide +kernel) (by decide +kernel)
set_option maxRecDepth 20000 in
theorem gX3_forget_X3_placesOf : GoodIn wsX3_forget (wsV RX3 91 RX3 yX3_placesOf wsX3_placesOf) := goodIn_app (goodIn_of _ (by decide +kernel)) ggX3_forget_X3_placesOf
theorem dX3_forget_0 : decode cX3_forget 0 = .ok (.aload_n 0, 1) := by decide +kernel
theorem dX3_forget_1 : decode cX3_forget 1 = .ok (.iconst 0, 1) := by decide +kernel
theorem dX3_forget_2 : decode cX3_forget 2 = .ok (.putfield 40, 3) := by decide +kernel
theorem dX3_forget_5 : decode cX3_forget 5 = .ok (.aload_n 0, 1) := by decide +kernel
theorem dX3_forget_6 : decode cX3_forget 6 = .ok (.iload_n 1, 1) := by decide +kernel
theorem dX3_forget_7 : decode cX3_forget 7 = .ok (.iload_n 2, 1) := by decide +kernel
theorem dX3_forget_8 : decode cX3_forget 8 = .ok (.invokevirtual 85, 3) := by decide +kernel
theorem dX3_forget_11 : decode cX3_forget 11 = .ok (.ifCond .ne 9, 3) := by decide +kernel
theorem dX3_forget_14 : decode cX3_forget 14 = .ok (.aload_n 0, 1) := by decide +kernel
theorem dX3_forget_15 : decode cX3_forget 15 = .ok (.iconst 1, 1) := by decide +kernel
theorem dX3_forget_16 : decode cX3_forget 16 = .ok (.invokevirtual 65, 3) := by decide +kernel
theorem dX3_forget_19 : decode cX3_forget 19 = .ok (.ireturn, 1) := by decide +kernel
theorem dX3_forget_20 : decode cX3_forget 20 = .ok (.aload_n 0, 1) := by decide +kernel
theorem dX3_forget_21 : decode cX3_forget 21 = .ok (.getfield 22, 3) := by decide +kernel
theorem dX3_forget_24 : decode cX3_forget 24 = .ok (.iload_n 2, 1) := by decide +kernel
theorem dX3_forget_25 : decode cX3_forget 25 = .ok (.iaload, 1) := by decide +kernel
theorem dX3_forget_26 : decode cX3_forget 26 = .ok (.iload_n 1, 1) := by decide +kernel
theorem dX3_forget_27 : decode cX3_forget 27 = .ok (.invokestatic 51, 3) := by decide +kernel
theorem dX3_forget_30 : decode cX3_forget 30 = .ok (.ifCond .ne 9, 3) := by decide +kernel
theorem dX3_forget_33 : decode cX3_forget 33 = .ok (.aload_n 0, 1) := by decide +kernel
theorem dX3_forget_34 : decode cX3_forget 34 = .ok (.iconst 2, 1) := by decide +kernel
theorem dX3_forget_35 : decode cX3_forget 35 = .ok (.invokevirtual 65, 3) := by decide +kernel
theorem dX3_forget_38 : decode cX3_forget 38 = .ok (.ireturn, 1) := by decide +kernel
theorem dX3_forget_39 : decode cX3_forget 39 = .ok (.aload_n 0, 1) := by decide +kernel
theorem dX3_forget_40 : decode cX3_forget 40 = .ok (.getfield 22, 3) := by decide +kernel
theorem dX3_forget_43 : decode cX3_forget 43 = .ok (.iload_n 2, 1) := by decide +kernel
theorem dX3_forget_44 : decode cX3_forget 44 = .ok (.dup2, 1) := by decide +kernel
theorem dX3_forget_45 : decode cX3_forget 45 = .ok (.iaload, 1) := by decide +kernel
theorem dX3_forget_46 : decode cX3_forget 46 = .ok (.iconst 1, 1) := by decide +kernel
theorem dX3_forget_47 : decode cX3_forget 47 = .ok (.iload_n 1, 1) := by decide +kernel
theorem dX3_forget_48 : decode cX3_forget 48 = .ok (.ishl, 1) := by decide +kernel
theorem dX3_forget_49 : decode cX3_forget 49 = .ok (.iconst (-1), 1) := by decide +kernel
theorem dX3_forget_50 : decode cX3_forget 50 = .ok (.ixor, 1) := by decide +kernel
theorem dX3_forget_51 : decode cX3_forget 51 = .ok (.iand, 1) := by decide +kernel
theorem dX3_forget_52 : decode cX3_forget 52 = .ok (.iastore, 1) := by decide +kernel
theorem dX3_forget_53 : decode cX3_forget 53 = .ok (.aload_n 0, 1) := by decide +kernel
theorem dX3_forget_54 : decode cX3_forget 54 = .ok (.iload_n 1, 1) := by decide +kernel
theorem dX3_forget_55 : decode cX3_forget 55 = .ok (.invokevirtual 91, 3) := by decide +kernel
theorem dX3_forget_58 : decode cX3_forget 58 = .ok (.ireturn, 1) := by decide +kernel
set_option maxRecDepth 20000 in
theorem ggX3_all_X3_many : GoodIn wsX3_all wsX3_many := goodIn_r _ [5] (by decide +kernel) (by decide +kernel)
set_option maxRecDepth 20000 in
theorem gX3_all_X3_many : GoodIn wsX3_all (va_wsS RX3 79 yX3_many wsX3_many) := goodIn_app (goodIn_of _ (by decide +kernel)) ggX3_all_X3_many
theorem dX3_all_0 : decode cX3_all 0 = .ok (.iconst 0, 1) := by decide +kernel
theorem dX3_all_1 : decode cX3_all 1 = .ok (.istore_n 1, 1) := by decide +kernel
theorem dX3_all_2 : decode cX3_all 2 = .ok (.aload_n 0, 1) := by decide +kernel
theorem dX3_all_3 : decode cX3_all 3 = .ok (.getfield 22, 3) := by decide +kernel
theorem dX3_all_6 : decode cX3_all 6 = .ok (.astore_n 2, 1) := by decide +kernel
theorem dX3_all_7 : decode cX3_all 7 = .ok (.aload_n 2, 1) := by decide +kernel
theorem dX3_all_8 : decode cX3_all 8 = .ok (.arraylength, 1) := by decide +kernel
theorem dX3_all_9 : decode cX3_all 9 = .ok (.istore_n 3, 1) := by decide +kernel
theorem dX3_all_10 : decode cX3_all 10 = .ok (.iconst 0, 1) := by decide +kernel
theorem dX3_all_11 : decode cX3_all 11 = .ok (.istore 4, 2) := by decide +kernel
theorem dX3_all_13 : decode cX3_all 13 = .ok (.iload 4, 2) := by decide +kernel
theorem dX3_all_15 : decode cX3_all 15 = .ok (.iload_n 3, 1) := by decide +kernel
theorem dX3_all_16 : decode cX3_all 16 = .ok (.if_icmp .ge 23, 3) := by decide +kernel
theorem dX3_all_19 : decode cX3_all 19 = .ok (.aload_n 2, 1) := by decide +kernel
theorem dX3_all_20 : decode cX3_all 20 = .ok (.iload 4, 2) := by decide +kernel
theorem dX3_all_22 : decode cX3_all 22 = .ok (.iaload, 1) := by decide +kernel
theorem dX3_all_23 : decode cX3_all 23 = .ok (.istore 5, 2) := by decide +kernel
theorem dX3_all_25 : decode cX3_all 25 = .ok (.iload_n 1, 1) := by decide +kernel
theorem dX3_all_26 : decode cX3_all 26 = .ok (.iload 5, 2) := by decide +kernel
theorem dX3_all_28 : decode cX3_all 28 = .ok (.invokestatic 79, 3) := by decide +kernel
theorem dX3_all_31 : decode cX3_all 31 = .ok (.iadd, 1) := by decide +kernel
theorem dX3_all_32 : decode cX3_all 32 = .ok (.istore_n 1, 1) := by decide +kernel
theorem dX3_all_33 : decode cX3_all 33 = .ok (.iinc 4 1, 3) := by decide +kernel
theorem dX3_all_36 : decode cX3_all 36 = .ok (.goto (-23), 3) := by decide +kernel
theorem dX3_all_39 : decode cX3_all 39 = .ok (.iload_n 1, 1) := by decide +kernel
theorem dX3_all_40 : decode cX3_all 40 = .ok (.ireturn, 1) := by decide +kernel
set_option maxRecDepth 20000 in
theorem ggX3_comes_X3_banned : GoodIn wsX3_comes wsX3_banned := goodIn_r _ [9, 1, 2, 10, 11, 12, 13, 8, 14, 15, 16, 17, 18, 19, 20, 21, 22, 23, 24, 25, 26, 27, 28] (by decide +kernel) (by decide +kernel)
set_option maxRecDepth 20000 in
theorem gX3_comes_X3_banned : GoodIn wsX3_comes (wsV RX3 88 RX3 yX3_banned wsX3_banned) := goodIn_app (goodIn_of _ (by decide +kernel)) ggX3_comes_X3_banned
set_option maxRecDepth 20000 in
theorem ggX3_comes_X3_has : GoodIn wsX3_comes wsX3_has := goodIn_r _ [14] (by decide +kernel) (by decide +kernel)
set_option maxRecDepth 20000 in
theorem gX3_comes_X3_has : GoodIn wsX3_comes (va_wsS RX3 51 yX3_has wsX3_has) := goodIn_app (goodIn_of _ (by decide +kernel)) ggX3_comes_X3_has
theorem dX3_comes_0 : decode cX3_comes 0 = .ok (.aload_n 0, 1) := by decide +kernel
theorem dX3_comes_1 : decode cX3_comes 1 = .ok (.iload_n 1, 1) := by decide +kernel
theorem dX3_comes_2 : decode cX3_comes 2 = .ok (.iload_n 2, 1) := by decide +kernel
theorem dX3_comes_3 : decode cX3_comes 3 = .ok (.invokevirtual 88, 3) := by decide +kernel
theorem dX3_comes_6 : decode cX3_comes 6 = .ok (.ifCond .ne 5, 3) := by decide +kernel
theorem dX3_comes_9 : decode cX3_comes 9 = .ok (.iload_n 1, 1) := by decide +kernel
theorem dX3_comes_10 : decode cX3_comes 10 = .ok (.ireturn, 1) := by decide +kernel
theorem dX3_comes_11 : decode cX3_comes 11 = .ok (.aload_n 0, 1) := by decide +kernel
theorem dX3_comes_12 : decode cX3_comes 12 = .ok (.getfield 25, 3) := by decide +kernel
theorem dX3_comes_15 : decode cX3_comes 15 = .ok (.iload_n 2, 1) := by decide +kernel
theorem dX3_comes_16 : decode cX3_comes 16 = .ok (.iaload, 1) := by decide +kernel
theorem dX3_comes_17 : decode cX3_comes 17 = .ok (.aload_n 0, 1) := by decide +kernel
theorem dX3_comes_18 : decode cX3_comes 18 = .ok (.getfield 9, 3) := by decide +kernel
theorem dX3_comes_21 : decode cX3_comes 21 = .ok (.iload_n 1, 1) := by decide +kernel
theorem dX3_comes_22 : decode cX3_comes 22 = .ok (.iaload, 1) := by decide +kernel
theorem dX3_comes_23 : decode cX3_comes 23 = .ok (.invokestatic 51, 3) := by decide +kernel
theorem dX3_comes_26 : decode cX3_comes 26 = .ok (.ifCond .eq 5, 3) := by decide +kernel
theorem dX3_comes_29 : decode cX3_comes 29 = .ok (.iconst (-1), 1) := by decide +kernel
theorem dX3_comes_30 : decode cX3_comes 30 = .ok (.ireturn, 1) := by decide +kernel
theorem dX3_comes_31 : decode cX3_comes 31 = .ok (.iconst 0, 1) := by decide +kernel
theorem dX3_comes_32 : decode cX3_comes 32 = .ok (.istore_n 3, 1) := by decide +kernel
theorem dX3_comes_33 : decode cX3_comes 33 = .ok (.iload_n 3, 1) := by decide +kernel
theorem dX3_comes_34 : decode cX3_comes 34 = .ok (.aload_n 0, 1) := by decide +kernel
theorem dX3_comes_35 : decode cX3_comes 35 = .ok (.getfield 44, 3) := by decide +kernel
theorem dX3_comes_38 : decode cX3_comes 38 = .ok (.if_icmp .ge 30, 3) := by decide +kernel
theorem dX3_comes_41 : decode cX3_comes 41 = .ok (.aload_n 0, 1) := by decide +kernel
theorem dX3_comes_42 : decode cX3_comes 42 = .ok (.getfield 19, 3) := by decide +kernel
theorem dX3_comes_45 : decode cX3_comes 45 = .ok (.iload_n 3, 1) := by decide +kernel
theorem dX3_comes_46 : decode cX3_comes 46 = .ok (.iaload, 1) := by decide +kernel
theorem dX3_comes_47 : decode cX3_comes 47 = .ok (.iload_n 1, 1) := by decide +kernel
theorem dX3_comes_48 : decode cX3_comes 48 = .ok (.if_icmp .ne 14, 3) := by decide +kernel
theorem dX3_comes_51 : decode cX3_comes 51 = .ok (.aload_n 0, 1) := by decide +kernel
theorem dX3_comes_52 : decode cX3_comes 52 = .ok (.iload_n 3, 1) := by decide +kernel
theorem dX3_comes_53 : decode cX3_comes 53 = .ok (.iload_n 2, 1) := by decide +kernel
theorem dX3_comes_54 : decode cX3_comes 54 = .ok (.invokevirtual 88, 3) := by decide +kernel
theorem dX3_comes_57 : decode cX3_comes 57 = .ok (.ifCond .ne 5, 3) := by decide +kernel
theorem dX3_comes_60 : decode cX3_comes 60 = .ok (.iload_n 3, 1) := by decide +kernel
theorem dX3_comes_61 : decode cX3_comes 61 = .ok (.ireturn, 1) := by decide +kernel
theorem dX3_comes_62 : decode cX3_comes 62 = .ok (.iinc 3 1, 3) := by decide +kernel
theorem dX3_comes_65 : decode cX3_comes 65 = .ok (.goto (-32), 3) := by decide +kernel
theorem dX3_comes_68 : decode cX3_comes 68 = .ok (.iconst (-1), 1) := by decide +kernel
theorem dX3_comes_69 : decode cX3_comes 69 = .ok (.ireturn, 1) := by decide +kernel
set_option maxRecDepth 20000 in
theorem ggX3_seasonOn_X3_has : GoodIn wsX3_seasonOn wsX3_has := goodIn_r _ [12] (by decide +kernel) (by decide +kernel)
set_option maxRecDepth 20000 in
theorem gX3_seasonOn_X3_has : GoodIn wsX3_seasonOn (va_wsS RX3 51 yX3_has wsX3_has) := goodIn_app (goodIn_of _ (by decide +kernel)) ggX3_seasonOn_X3_has
set_option maxRecDepth 20000 in
theorem ggX3_seasonOn_X3_banned : GoodIn wsX3_seasonOn wsX3_banned := goodIn_r _ [16, 17, 18, 19, 20, 9, 10, 11, 12, 26, 27, 28, 29, 30, 31, 32, 33, 34, 35, 36, 37, 38, 39] (by decide +kernel) (by decide +kernel)
set_option maxRecDepth 20000 in
theorem gX3_seasonOn_X3_banned : GoodIn wsX3_seasonOn (wsV RX3 88 RX3 yX3_banned wsX3_banned) := goodIn_app (goodIn_of _ (by decide +kernel)) ggX3_seasonOn_X3_banned
set_option maxRecDepth 20000 in
theorem ggX3_seasonOn_X3_comes : GoodIn wsX3_seasonOn wsX3_comes := goodIn_r _ [24, 17, 18, 1, 25, 13, 14, 15, 11, 16, 19, 20, 9, 10, 12, 26, 27, 28, 29, 30, 31, 32, 33, 34, 35, 36, 37, 38, 39] (by decide +kernel) (by decide +kernel)
set_option maxRecDepth 20000 in
theorem gX3_seasonOn_X3_comes : GoodIn wsX3_seasonOn (wsV RX3 94 RX3 yX3_comes wsX3_comes) := goodIn_app (goodIn_of _ (by decide +kernel)) ggX3_seasonOn_X3_comes
theorem dX3_seasonOn_0 : decode cX3_seasonOn 0 = .ok (.iconst 0, 1) := by decide +kernel
theorem dX3_seasonOn_1 : decode cX3_seasonOn 1 = .ok (.istore_n 1, 1) := by decide +kernel
theorem dX3_seasonOn_2 : decode cX3_seasonOn 2 = .ok (.iconst 0, 1) := by decide +kernel
theorem dX3_seasonOn_3 : decode cX3_seasonOn 3 = .ok (.istore_n 2, 1) := by decide +kernel
theorem dX3_seasonOn_4 : decode cX3_seasonOn 4 = .ok (.iload_n 2, 1) := by decide +kernel
theorem dX3_seasonOn_5 : decode cX3_seasonOn 5 = .ok (.bipush 6, 2) := by decide +kernel
theorem dX3_seasonOn_7 : decode cX3_seasonOn 7 = .ok (.if_icmp .ge 79, 3) := by decide +kernel
theorem dX3_seasonOn_10 : decode cX3_seasonOn 10 = .ok (.iconst 0, 1) := by decide +kernel
theorem dX3_seasonOn_11 : decode cX3_seasonOn 11 = .ok (.istore_n 3, 1) := by decide +kernel
theorem dX3_seasonOn_12 : decode cX3_seasonOn 12 = .ok (.iload_n 3, 1) := by decide +kernel
theorem dX3_seasonOn_13 : decode cX3_seasonOn 13 = .ok (.aload_n 0, 1) := by decide +kernel
theorem dX3_seasonOn_14 : decode cX3_seasonOn 14 = .ok (.getfield 44, 3) := by decide +kernel
theorem dX3_seasonOn_17 : decode cX3_seasonOn 17 = .ok (.if_icmp .ge 51, 3) := by decide +kernel
theorem dX3_seasonOn_20 : decode cX3_seasonOn 20 = .ok (.aload_n 0, 1) := by decide +kernel
theorem dX3_seasonOn_21 : decode cX3_seasonOn 21 = .ok (.getfield 22, 3) := by decide +kernel
theorem dX3_seasonOn_24 : decode cX3_seasonOn 24 = .ok (.iload_n 2, 1) := by decide +kernel
theorem dX3_seasonOn_25 : decode cX3_seasonOn 25 = .ok (.iaload, 1) := by decide +kernel
theorem dX3_seasonOn_26 : decode cX3_seasonOn 26 = .ok (.iload_n 3, 1) := by decide +kernel
theorem dX3_seasonOn_27 : decode cX3_seasonOn 27 = .ok (.invokestatic 51, 3) := by decide +kernel
theorem dX3_seasonOn_30 : decode cX3_seasonOn 30 = .ok (.ifCond .eq 32, 3) := by decide +kernel
theorem dX3_seasonOn_33 : decode cX3_seasonOn 33 = .ok (.aload_n 0, 1) := by decide +kernel
theorem dX3_seasonOn_34 : decode cX3_seasonOn 34 = .ok (.iload_n 3, 1) := by decide +kernel
theorem dX3_seasonOn_35 : decode cX3_seasonOn 35 = .ok (.iload_n 2, 1) := by decide +kernel
theorem dX3_seasonOn_36 : decode cX3_seasonOn 36 = .ok (.invokevirtual 88, 3) := by decide +kernel
theorem dX3_seasonOn_39 : decode cX3_seasonOn 39 = .ok (.ifCond .ne 6, 3) := by decide +kernel
theorem dX3_seasonOn_42 : decode cX3_seasonOn 42 = .ok (.goto 20, 3) := by decide +kernel
theorem dX3_seasonOn_45 : decode cX3_seasonOn 45 = .ok (.aload_n 0, 1) := by decide +kernel
theorem dX3_seasonOn_46 : decode cX3_seasonOn 46 = .ok (.getfield 22, 3) := by decide +kernel
theorem dX3_seasonOn_49 : decode cX3_seasonOn 49 = .ok (.iload_n 2, 1) := by decide +kernel
theorem dX3_seasonOn_50 : decode cX3_seasonOn 50 = .ok (.dup2, 1) := by decide +kernel
theorem dX3_seasonOn_51 : decode cX3_seasonOn 51 = .ok (.iaload, 1) := by decide +kernel
theorem dX3_seasonOn_52 : decode cX3_seasonOn 52 = .ok (.iconst 1, 1) := by decide +kernel
theorem dX3_seasonOn_53 : decode cX3_seasonOn 53 = .ok (.iload_n 3, 1) := by decide +kernel
theorem dX3_seasonOn_54 : decode cX3_seasonOn 54 = .ok (.ishl, 1) := by decide +kernel
theorem dX3_seasonOn_55 : decode cX3_seasonOn 55 = .ok (.iconst (-1), 1) := by decide +kernel
theorem dX3_seasonOn_56 : decode cX3_seasonOn 56 = .ok (.ixor, 1) := by decide +kernel
theorem dX3_seasonOn_57 : decode cX3_seasonOn 57 = .ok (.iand, 1) := by decide +kernel
theorem dX3_seasonOn_58 : decode cX3_seasonOn 58 = .ok (.iastore, 1) := by decide +kernel
theorem dX3_seasonOn_59 : decode cX3_seasonOn 59 = .ok (.iinc 1 1, 3) := by decide +kernel
theorem dX3_seasonOn_62 : decode cX3_seasonOn 62 = .ok (.iinc 3 1, 3) := by decide +kernel
theorem dX3_seasonOn_65 : decode cX3_seasonOn 65 = .ok (.goto (-53), 3) := by decide +kernel
theorem dX3_seasonOn_68 : decode cX3_seasonOn 68 = .ok (.aload_n 0, 1) := by decide +kernel
theorem dX3_seasonOn_69 : decode cX3_seasonOn 69 = .ok (.getfield 34, 3) := by decide +kernel
theorem dX3_seasonOn_72 : decode cX3_seasonOn 72 = .ok (.iload_n 2, 1) := by decide +kernel
theorem dX3_seasonOn_73 : decode cX3_seasonOn 73 = .ok (.aload_n 0, 1) := by decide +kernel
theorem dX3_seasonOn_74 : decode cX3_seasonOn 74 = .ok (.getfield 22, 3) := by decide +kernel
theorem dX3_seasonOn_77 : decode cX3_seasonOn 77 = .ok (.iload_n 2, 1) := by decide +kernel
theorem dX3_seasonOn_78 : decode cX3_seasonOn 78 = .ok (.iaload, 1) := by decide +kernel
theorem dX3_seasonOn_79 : decode cX3_seasonOn 79 = .ok (.iastore, 1) := by decide +kernel
theorem dX3_seasonOn_80 : decode cX3_seasonOn 80 = .ok (.iinc 2 1, 3) := by decide +kernel
theorem dX3_seasonOn_83 : decode cX3_seasonOn 83 = .ok (.goto (-79), 3) := by decide +kernel
theorem dX3_seasonOn_86 : decode cX3_seasonOn 86 = .ok (.iconst 0, 1) := by decide +kernel
theorem dX3_seasonOn_87 : decode cX3_seasonOn 87 = .ok (.istore_n 2, 1) := by decide +kernel
theorem dX3_seasonOn_88 : decode cX3_seasonOn 88 = .ok (.iload_n 2, 1) := by decide +kernel
theorem dX3_seasonOn_89 : decode cX3_seasonOn 89 = .ok (.bipush 6, 2) := by decide +kernel
theorem dX3_seasonOn_91 : decode cX3_seasonOn 91 = .ok (.if_icmp .ge 103, 3) := by decide +kernel
theorem dX3_seasonOn_94 : decode cX3_seasonOn 94 = .ok (.iconst 0, 1) := by decide +kernel
theorem dX3_seasonOn_95 : decode cX3_seasonOn 95 = .ok (.istore_n 3, 1) := by decide +kernel
theorem dX3_seasonOn_96 : decode cX3_seasonOn 96 = .ok (.iload_n 3, 1) := by decide +kernel
theorem dX3_seasonOn_97 : decode cX3_seasonOn 97 = .ok (.bipush 6, 2) := by decide +kernel
theorem dX3_seasonOn_99 : decode cX3_seasonOn 99 = .ok (.if_icmp .ge 89, 3) := by decide +kernel
theorem dX3_seasonOn_102 : decode cX3_seasonOn 102 = .ok (.aload_n 0, 1) := by decide +kernel
theorem dX3_seasonOn_103 : decode cX3_seasonOn 103 = .ok (.getfield 31, 3) := by decide +kernel
theorem dX3_seasonOn_106 : decode cX3_seasonOn 106 = .ok (.iload_n 2, 1) := by decide +kernel
theorem dX3_seasonOn_107 : decode cX3_seasonOn 107 = .ok (.iaload, 1) := by decide +kernel
theorem dX3_seasonOn_108 : decode cX3_seasonOn 108 = .ok (.iload_n 3, 1) := by decide +kernel
theorem dX3_seasonOn_109 : decode cX3_seasonOn 109 = .ok (.invokestatic 51, 3) := by decide +kernel
theorem dX3_seasonOn_112 : decode cX3_seasonOn 112 = .ok (.ifCond .ne 6, 3) := by decide +kernel
theorem dX3_seasonOn_115 : decode cX3_seasonOn 115 = .ok (.goto 67, 3) := by decide +kernel
theorem dX3_seasonOn_118 : decode cX3_seasonOn 118 = .ok (.iconst 0, 1) := by decide +kernel
theorem dX3_seasonOn_119 : decode cX3_seasonOn 119 = .ok (.istore 4, 2) := by decide +kernel
theorem dX3_seasonOn_121 : decode cX3_seasonOn 121 = .ok (.iload 4, 2) := by decide +kernel
theorem dX3_seasonOn_123 : decode cX3_seasonOn 123 = .ok (.aload_n 0, 1) := by decide +kernel
theorem dX3_seasonOn_124 : decode cX3_seasonOn 124 = .ok (.getfield 44, 3) := by decide +kernel
theorem dX3_seasonOn_127 : decode cX3_seasonOn 127 = .ok (.if_icmp .ge 55, 3) := by decide +kernel
theorem dX3_seasonOn_130 : decode cX3_seasonOn 130 = .ok (.aload_n 0, 1) := by decide +kernel
theorem dX3_seasonOn_131 : decode cX3_seasonOn 131 = .ok (.getfield 22, 3) := by decide +kernel
theorem dX3_seasonOn_134 : decode cX3_seasonOn 134 = .ok (.iload_n 2, 1) := by decide +kernel
theorem dX3_seasonOn_135 : decode cX3_seasonOn 135 = .ok (.iaload, 1) := by decide +kernel
theorem dX3_seasonOn_136 : decode cX3_seasonOn 136 = .ok (.iload 4, 2) := by decide +kernel
theorem dX3_seasonOn_138 : decode cX3_seasonOn 138 = .ok (.invokestatic 51, 3) := by decide +kernel
theorem dX3_seasonOn_141 : decode cX3_seasonOn 141 = .ok (.ifCond .eq 13, 3) := by decide +kernel
theorem dX3_seasonOn_144 : decode cX3_seasonOn 144 = .ok (.aload_n 0, 1) := by decide +kernel
theorem dX3_seasonOn_145 : decode cX3_seasonOn 145 = .ok (.iload 4, 2) := by decide +kernel
theorem dX3_seasonOn_147 : decode cX3_seasonOn 147 = .ok (.iload_n 3, 1) := by decide +kernel
theorem dX3_seasonOn_148 : decode cX3_seasonOn 148 = .ok (.invokevirtual 94, 3) := by decide +kernel
theorem dX3_seasonOn_151 : decode cX3_seasonOn 151 = .ok (.goto 4, 3) := by decide +kernel
theorem dX3_seasonOn_154 : decode cX3_seasonOn 154 = .ok (.iconst (-1), 1) := by decide +kernel
theorem dX3_seasonOn_155 : decode cX3_seasonOn 155 = .ok (.istore 5, 2) := by decide +kernel
theorem dX3_seasonOn_157 : decode cX3_seasonOn 157 = .ok (.iload 5, 2) := by decide +kernel
theorem dX3_seasonOn_159 : decode cX3_seasonOn 159 = .ok (.iconst (-1), 1) := by decide +kernel
theorem dX3_seasonOn_160 : decode cX3_seasonOn 160 = .ok (.if_icmp .eq 16, 3) := by decide +kernel
theorem dX3_seasonOn_163 : decode cX3_seasonOn 163 = .ok (.aload_n 0, 1) := by decide +kernel
theorem dX3_seasonOn_164 : decode cX3_seasonOn 164 = .ok (.getfield 34, 3) := by decide +kernel
theorem dX3_seasonOn_167 : decode cX3_seasonOn 167 = .ok (.iload_n 3, 1) := by decide +kernel
theorem dX3_seasonOn_168 : decode cX3_seasonOn 168 = .ok (.dup2, 1) := by decide +kernel
theorem dX3_seasonOn_169 : decode cX3_seasonOn 169 = .ok (.iaload, 1) := by decide +kernel
theorem dX3_seasonOn_170 : decode cX3_seasonOn 170 = .ok (.iconst 1, 1) := by decide +kernel
theorem dX3_seasonOn_171 : decode cX3_seasonOn 171 = .ok (.iload 5, 2) := by decide +kernel
theorem dX3_seasonOn_173 : decode cX3_seasonOn 173 = .ok (.ishl, 1) := by decide +kernel
theorem dX3_seasonOn_174 : decode cX3_seasonOn 174 = .ok (.ior, 1) := by decide +kernel
theorem dX3_seasonOn_175 : decode cX3_seasonOn 175 = .ok (.iastore, 1) := by decide +kernel
theorem dX3_seasonOn_176 : decode cX3_seasonOn 176 = .ok (.iinc 4 1, 3) := by decide +kernel
theorem dX3_seasonOn_179 : decode cX3_seasonOn 179 = .ok (.goto (-58), 3) := by decide +kernel
theorem dX3_seasonOn_182 : decode cX3_seasonOn 182 = .ok (.iinc 3 1, 3) := by decide +kernel
theorem dX3_seasonOn_185 : decode cX3_seasonOn 185 = .ok (.goto (-89), 3) := by decide +kernel
theorem dX3_seasonOn_188 : decode cX3_seasonOn 188 = .ok (.iinc 2 1, 3) := by decide +kernel
theorem dX3_seasonOn_191 : decode cX3_seasonOn 191 = .ok (.goto (-103), 3) := by decide +kernel
theorem dX3_seasonOn_194 : decode cX3_seasonOn 194 = .ok (.aload_n 0, 1) := by decide +kernel
theorem dX3_seasonOn_195 : decode cX3_seasonOn 195 = .ok (.getfield 34, 3) := by decide +kernel
theorem dX3_seasonOn_198 : decode cX3_seasonOn 198 = .ok (.iconst 0, 1) := by decide +kernel
theorem dX3_seasonOn_199 : decode cX3_seasonOn 199 = .ok (.aload_n 0, 1) := by decide +kernel
theorem dX3_seasonOn_200 : decode cX3_seasonOn 200 = .ok (.getfield 22, 3) := by decide +kernel
theorem dX3_seasonOn_203 : decode cX3_seasonOn 203 = .ok (.iconst 0, 1) := by decide +kernel
theorem dX3_seasonOn_204 : decode cX3_seasonOn 204 = .ok (.bipush 6, 2) := by decide +kernel
theorem dX3_seasonOn_206 : decode cX3_seasonOn 206 = .ok (.invokestatic 98, 3) := by decide +kernel
theorem dX3_seasonOn_209 : decode cX3_seasonOn 209 = .ok (.iload_n 1, 1) := by decide +kernel
theorem dX3_seasonOn_210 : decode cX3_seasonOn 210 = .ok (.ireturn, 1) := by decide +kernel
set_option maxRecDepth 20000 in
theorem ggX3_passSeasons_X3_isIn : GoodIn wsX3_passSeasons wsX3_isIn := goodIn_r _ [7] (by decide +kernel) (by decide +kernel)
set_option maxRecDepth 20000 in
theorem gX3_passSeasons_X3_isIn : GoodIn wsX3_passSeasons (va_wsS RX3 47 yX3_isIn wsX3_isIn) := goodIn_app (goodIn_of _ (by decide +kernel)) ggX3_passSeasons_X3_isIn
set_option maxRecDepth 20000 in
theorem ggX3_passSeasons_X3_fail : GoodIn wsX3_passSeasons wsX3_fail := goodIn_r _ [11, 1, 47, 48, 49, 50, 51, 52, 53, 54, 55, 56, 57, 58, 59, 60] (by decide +kernel) (by decide +kernel)
set_option maxRecDepth 20000 in
theorem gX3_passSeasons_X3_fail : GoodIn wsX3_passSeasons (wsV RX3 65 RX3 yX3_fail wsX3_fail) := goodIn_app (goodIn_of _ (by decide +kernel)) ggX3_passSeasons_X3_fail
set_option maxRecDepth 20000 in
theorem ggX3_passSeasons_X3_seasonOn : GoodIn wsX3_passSeasons wsX3_seasonOn := goodIn_r _ [15, 16, 17, 18, 19, 20, 21, 22, 23, 24, 25, 6, 26, 27, 28, 29, 30, 31, 32, 33, 34, 35, 36, 37, 38, 39, 47, 48, 49, 50, 51, 52, 53, 54, 55, 56, 57, 58, 59, 60] (by decide +kernel) (by decide +kernel)
set_option maxRecDepth 20000 in
theorem gX3_passSeasons_X3_seasonOn : GoodIn wsX3_passSeasons (wsV RX3 107 RX3 yX3_seasonOn wsX3_seasonOn) := goodIn_app (goodIn_of _ (by decide +kernel)) ggX3_passSeasons_X3_seasonOn
set_option maxRecDepth 20000 in
theorem ggX3_passSeasons_X3_all : GoodIn wsX3_passSeasons wsX3_all := goodIn_r _ [43, 17, 44, 45, 6, 46, 47, 48, 49, 50, 51, 52, 53, 54, 55, 56, 57, 58, 59, 60] (by decide +kernel) (by decide +kernel)
set_option maxRecDepth 20000 in
theorem gX3_passSeasons_X3_all : GoodIn wsX3_passSeasons (wsV RX3 114 RX3 yX3_all wsX3_all) := goodIn_app (goodIn_of _ (by decide +kernel)) ggX3_passSeasons_X3_all
theorem dX3_passSeasons_0 : decode cX3_passSeasons 0 = .ok (.aload_n 0, 1) := by decide +kernel
theorem dX3_passSeasons_1 : decode cX3_passSeasons 1 = .ok (.iconst 0, 1) := by decide +kernel
theorem dX3_passSeasons_2 : decode cX3_passSeasons 2 = .ok (.putfield 40, 3) := by decide +kernel
theorem dX3_passSeasons_5 : decode cX3_passSeasons 5 = .ok (.iload_n 1, 1) := by decide +kernel
theorem dX3_passSeasons_6 : decode cX3_passSeasons 6 = .ok (.iconst 1, 1) := by decide +kernel
theorem dX3_passSeasons_7 : decode cX3_passSeasons 7 = .ok (.bipush 40, 2) := by decide +kernel
theorem dX3_passSeasons_9 : decode cX3_passSeasons 9 = .ok (.invokestatic 47, 3) := by decide +kernel
theorem dX3_passSeasons_12 : decode cX3_passSeasons 12 = .ok (.ifCond .ne 9, 3) := by decide +kernel
theorem dX3_passSeasons_15 : decode cX3_passSeasons 15 = .ok (.aload_n 0, 1) := by decide +kernel
theorem dX3_passSeasons_16 : decode cX3_passSeasons 16 = .ok (.iconst 1, 1) := by decide +kernel
theorem dX3_passSeasons_17 : decode cX3_passSeasons 17 = .ok (.invokevirtual 65, 3) := by decide +kernel
theorem dX3_passSeasons_20 : decode cX3_passSeasons 20 = .ok (.ireturn, 1) := by decide +kernel
theorem dX3_passSeasons_21 : decode cX3_passSeasons 21 = .ok (.iconst 0, 1) := by decide +kernel
theorem dX3_passSeasons_22 : decode cX3_passSeasons 22 = .ok (.istore_n 2, 1) := by decide +kernel
theorem dX3_passSeasons_23 : decode cX3_passSeasons 23 = .ok (.iload_n 2, 1) := by decide +kernel
theorem dX3_passSeasons_24 : decode cX3_passSeasons 24 = .ok (.iload_n 1, 1) := by decide +kernel
theorem dX3_passSeasons_25 : decode cX3_passSeasons 25 = .ok (.if_icmp .ge 22, 3) := by decide +kernel
theorem dX3_passSeasons_28 : decode cX3_passSeasons 28 = .ok (.aload_n 0, 1) := by decide +kernel
theorem dX3_passSeasons_29 : decode cX3_passSeasons 29 = .ok (.dup, 1) := by decide +kernel
theorem dX3_passSeasons_30 : decode cX3_passSeasons 30 = .ok (.getfield 104, 3) := by decide +kernel
theorem dX3_passSeasons_33 : decode cX3_passSeasons 33 = .ok (.aload_n 0, 1) := by decide +kernel
theorem dX3_passSeasons_34 : decode cX3_passSeasons 34 = .ok (.invokevirtual 107, 3) := by decide +kernel
theorem dX3_passSeasons_37 : decode cX3_passSeasons 37 = .ok (.iadd, 1) := by decide +kernel
theorem dX3_passSeasons_38 : decode cX3_passSeasons 38 = .ok (.putfield 104, 3) := by decide +kernel
theorem dX3_passSeasons_41 : decode cX3_passSeasons 41 = .ok (.iinc 2 1, 3) := by decide +kernel
theorem dX3_passSeasons_44 : decode cX3_passSeasons 44 = .ok (.goto (-21), 3) := by decide +kernel
theorem dX3_passSeasons_47 : decode cX3_passSeasons 47 = .ok (.aload_n 0, 1) := by decide +kernel
theorem dX3_passSeasons_48 : decode cX3_passSeasons 48 = .ok (.dup, 1) := by decide +kernel
theorem dX3_passSeasons_49 : decode cX3_passSeasons 49 = .ok (.getfield 111, 3) := by decide +kernel
theorem dX3_passSeasons_52 : decode cX3_passSeasons 52 = .ok (.iload_n 1, 1) := by decide +kernel
theorem dX3_passSeasons_53 : decode cX3_passSeasons 53 = .ok (.iadd, 1) := by decide +kernel
theorem dX3_passSeasons_54 : decode cX3_passSeasons 54 = .ok (.putfield 111, 3) := by decide +kernel
theorem dX3_passSeasons_57 : decode cX3_passSeasons 57 = .ok (.aload_n 0, 1) := by decide +kernel
theorem dX3_passSeasons_58 : decode cX3_passSeasons 58 = .ok (.invokevirtual 114, 3) := by decide +kernel
theorem dX3_passSeasons_61 : decode cX3_passSeasons 61 = .ok (.ireturn, 1) := by decide +kernel
set_option maxRecDepth 20000 in
theorem ggX3_moralOf_X3_isFable : GoodIn wsX3_moralOf wsX3_isFable := goodIn_r _ [7, 8, 9, 10, 6, 11, 16, 17, 18, 19, 20, 21, 22, 23, 24, 25, 26, 27, 28, 29] (by decide +kernel) (by decide +kernel)
set_option maxRecDepth 20000 in
theorem gX3_moralOf_X3_isFable : GoodIn wsX3_moralOf (wsV RX3 73 RX3 yX3_isFable wsX3_isFable) := goodIn_app (goodIn_of _ (by decide +kernel)) ggX3_moralOf_X3_isFable
set_option maxRecDepth 20000 in
theorem ggX3_moralOf_X3_fail : GoodIn wsX3_moralOf wsX3_fail := goodIn_r _ [15, 1, 16, 17, 18, 19, 20, 21, 22, 23, 24, 25, 26, 27, 28, 29] (by decide +kernel) (by decide +kernel)
set_option maxRecDepth 20000 in
theorem gX3_moralOf_X3_fail : GoodIn wsX3_moralOf (wsV RX3 65 RX3 yX3_fail wsX3_fail) := goodIn_app (goodIn_of _ (by decide +kernel)) ggX3_moralOf_X3_fail
theorem dX3_moralOf_0 : decode cX3_moralOf 0 = .ok (.aload_n 0, 1) := by decide +kernel
theorem dX3_moralOf_1 : decode cX3_moralOf 1 = .ok (.iconst 0, 1) := by decide +kernel
theorem dX3_moralOf_2 : decode cX3_moralOf 2 = .ok (.putfield 40, 3) := by decide +kernel
theorem dX3_moralOf_5 : decode cX3_moralOf 5 = .ok (.aload_n 0, 1) := by decide +kernel
theorem dX3_moralOf_6 : decode cX3_moralOf 6 = .ok (.iload_n 1, 1) := by decide +kernel
theorem dX3_moralOf_7 : decode cX3_moralOf 7 = .ok (.invokevirtual 73, 3) := by decide +kernel
theorem dX3_moralOf_10 : decode cX3_moralOf 10 = .ok (.ifCond .eq 12, 3) := by decide +kernel
theorem dX3_moralOf_13 : decode cX3_moralOf 13 = .ok (.aload_n 0, 1) := by decide +kernel
theorem dX3_moralOf_14 : decode cX3_moralOf 14 = .ok (.getfield 9, 3) := by decide +kernel
theorem dX3_moralOf_17 : decode cX3_moralOf 17 = .ok (.iload_n 1, 1) := by decide +kernel
theorem dX3_moralOf_18 : decode cX3_moralOf 18 = .ok (.iaload, 1) := by decide +kernel
theorem dX3_moralOf_19 : decode cX3_moralOf 19 = .ok (.goto 8, 3) := by decide +kernel
theorem dX3_moralOf_22 : decode cX3_moralOf 22 = .ok (.aload_n 0, 1) := by decide +kernel
theorem dX3_moralOf_23 : decode cX3_moralOf 23 = .ok (.iconst 1, 1) := by decide +kernel
theorem dX3_moralOf_24 : decode cX3_moralOf 24 = .ok (.invokevirtual 65, 3) := by decide +kernel
theorem dX3_moralOf_27 : decode cX3_moralOf 27 = .ok (.ireturn, 1) := by decide +kernel
set_option maxRecDepth 20000 in
theorem ggX3_beastsOf_X3_isFable : GoodIn wsX3_beastsOf wsX3_isFable := goodIn_r _ [7, 8, 9, 10, 6, 11, 19, 20, 21, 22, 23, 24, 25, 26, 27, 28, 29, 30, 31, 32] (by decide +kernel) (by decide +kernel)
set_option maxRecDepth 20000 in
theorem gX3_beastsOf_X3_isFable : GoodIn wsX3_beastsOf (wsV RX3 73 RX3 yX3_isFable wsX3_isFable) := goodIn_app (goodIn_of _ (by decide +kernel)) ggX3_beastsOf_X3_isFable
set_option maxRecDepth 20000 in
theorem ggX3_beastsOf_X3_many : GoodIn wsX3_beastsOf wsX3_many := goodIn_r _ [14] (by decide +kernel) (by decide +kernel)
set_option maxRecDepth 20000 in
theorem gX3_beastsOf_X3_many : GoodIn wsX3_beastsOf (va_wsS RX3 79 yX3_many wsX3_many) := goodIn_app (goodIn_of _ (by decide +kernel)) ggX3_beastsOf_X3_many
set_option maxRecDepth 20000 in
theorem ggX3_beastsOf_X3_fail : GoodIn wsX3_beastsOf wsX3_fail := goodIn_r _ [18, 1, 19, 20, 21, 22, 23, 24, 25, 26, 27, 28, 29, 30, 31, 32] (by decide +kernel) (by decide +kernel)
set_option maxRecDepth 20000 in
theorem gX3_beastsOf_X3_fail : GoodIn wsX3_beastsOf (wsV RX3 65 RX3 yX3_fail wsX3_fail) := goodIn_app (goodIn_of _ (by decide +kernel)) ggX3_beastsOf_X3_fail
theorem dX3_beastsOf_0 : decode cX3_beastsOf 0 = .ok (.aload_n 0, 1) := by decide +kernel
theorem dX3_beastsOf_1 : decode cX3_beastsOf 1 = .ok (.iconst 0, 1) := by decide +kernel
theorem dX3_beastsOf_2 : decode cX3_beastsOf 2 = .ok (.putfield 40, 3) := by decide +kernel
theorem dX3_beastsOf_5 : decode cX3_beastsOf 5 = .ok (.aload_n 0, 1) := by decide +kernel
theorem dX3_beastsOf_6 : decode cX3_beastsOf 6 = .ok (.iload_n 1, 1) := by decide +kernel
theorem dX3_beastsOf_7 : decode cX3_beastsOf 7 = .ok (.invokevirtual 73, 3) := by decide +kernel
theorem dX3_beastsOf_10 : decode cX3_beastsOf 10 = .ok (.ifCond .eq 15, 3) := by decide +kernel
theorem dX3_beastsOf_13 : decode cX3_beastsOf 13 = .ok (.aload_n 0, 1) := by decide +kernel
theorem dX3_beastsOf_14 : decode cX3_beastsOf 14 = .ok (.getfield 13, 3) := by decide +kernel
theorem dX3_beastsOf_17 : decode cX3_beastsOf 17 = .ok (.iload_n 1, 1) := by decide +kernel
theorem dX3_beastsOf_18 : decode cX3_beastsOf 18 = .ok (.iaload, 1) := by decide +kernel
theorem dX3_beastsOf_19 : decode cX3_beastsOf 19 = .ok (.invokestatic 79, 3) := by decide +kernel
theorem dX3_beastsOf_22 : decode cX3_beastsOf 22 = .ok (.goto 8, 3) := by decide +kernel
theorem dX3_beastsOf_25 : decode cX3_beastsOf 25 = .ok (.aload_n 0, 1) := by decide +kernel
theorem dX3_beastsOf_26 : decode cX3_beastsOf 26 = .ok (.iconst 1, 1) := by decide +kernel
theorem dX3_beastsOf_27 : decode cX3_beastsOf 27 = .ok (.invokevirtual 65, 3) := by decide +kernel
theorem dX3_beastsOf_30 : decode cX3_beastsOf 30 = .ok (.ireturn, 1) := by decide +kernel
set_option maxRecDepth 20000 in
theorem ggX3_hasBeast_X3_isFable : GoodIn wsX3_hasBeast wsX3_isFable := goodIn_r _ [7, 8, 9, 10, 6, 11, 22, 23, 24, 25, 26, 27, 28, 29, 30, 31, 32, 33, 34, 35] (by decide +kernel) (by decide +kernel)
set_option maxRecDepth 20000 in
theorem gX3_hasBeast_X3_isFable : GoodIn wsX3_hasBeast (wsV RX3 73 RX3 yX3_isFable wsX3_isFable) := goodIn_app (goodIn_of _ (by decide +kernel)) ggX3_hasBeast_X3_isFable
set_option maxRecDepth 20000 in
theorem ggX3_hasBeast_X3_isBeast : GoodIn wsX3_hasBeast wsX3_isBeast := goodIn_r _ [14, 9, 10, 6, 11] (by decide +kernel) (by decide +kernel)
set_option maxRecDepth 20000 in
theorem gX3_hasBeast_X3_isBeast : GoodIn wsX3_hasBeast (va_wsS RX3 59 yX3_isBeast wsX3_isBeast) := goodIn_app (goodIn_of _ (by decide +kernel)) ggX3_hasBeast_X3_isBeast
set_option maxRecDepth 20000 in
theorem ggX3_hasBeast_X3_has : GoodIn wsX3_hasBeast wsX3_has := goodIn_r _ [17] (by decide +kernel) (by decide +kernel)
set_option maxRecDepth 20000 in
theorem gX3_hasBeast_X3_has : GoodIn wsX3_hasBeast (va_wsS RX3 51 yX3_has wsX3_has) := goodIn_app (goodIn_of _ (by decide +kernel)) ggX3_hasBeast_X3_has
set_option maxRecDepth 20000 in
theorem ggX3_hasBeast_X3_failed : GoodIn wsX3_hasBeast wsX3_failed := goodIn_r _ [21, 1, 22, 23, 24, 25, 26, 27, 28, 29, 30, 31, 32, 33, 34, 35] (by decide +kernel) (by decide +kernel)
set_option maxRecDepth 20000 in
theorem gX3_hasBeast_X3_failed : GoodIn wsX3_hasBeast (wsV RX3 82 RX3 yX3_failed wsX3_failed) := goodIn_app (goodIn_of _ (by decide +kernel)) ggX3_hasBeast_X3_failed
theorem dX3_hasBeast_0 : decode cX3_hasBeast 0 = .ok (.aload_n 0, 1) := by decide +kernel
theorem dX3_hasBeast_1 : decode cX3_hasBeast 1 = .ok (.iconst 0, 1) := by decide +kernel
theorem dX3_hasBeast_2 : decode cX3_hasBeast 2 = .ok (.putfield 40, 3) := by decide +kernel
theorem dX3_hasBeast_5 : decode cX3_hasBeast 5 = .ok (.aload_n 0, 1) := by decide +kernel
theorem dX3_hasBeast_6 : decode cX3_hasBeast 6 = .ok (.iload_n 1, 1) := by decide +kernel
theorem dX3_hasBeast_7 : decode cX3_hasBeast 7 = .ok (.invokevirtual 73, 3) := by decide +kernel
theorem dX3_hasBeast_10 : decode cX3_hasBeast 10 = .ok (.ifCond .eq 23, 3) := by decide +kernel
theorem dX3_hasBeast_13 : decode cX3_hasBeast 13 = .ok (.iload_n 2, 1) := by decide +kernel
theorem dX3_hasBeast_14 : decode cX3_hasBeast 14 = .ok (.invokestatic 59, 3) := by decide +kernel
theorem dX3_hasBeast_17 : decode cX3_hasBeast 17 = .ok (.ifCond .eq 16, 3) := by decide +kernel
theorem dX3_hasBeast_20 : decode cX3_hasBeast 20 = .ok (.aload_n 0, 1) := by decide +kernel
theorem dX3_hasBeast_21 : decode cX3_hasBeast 21 = .ok (.getfield 13, 3) := by decide +kernel
theorem dX3_hasBeast_24 : decode cX3_hasBeast 24 = .ok (.iload_n 1, 1) := by decide +kernel
theorem dX3_hasBeast_25 : decode cX3_hasBeast 25 = .ok (.iaload, 1) := by decide +kernel
theorem dX3_hasBeast_26 : decode cX3_hasBeast 26 = .ok (.iload_n 2, 1) := by decide +kernel
theorem dX3_hasBeast_27 : decode cX3_hasBeast 27 = .ok (.invokestatic 51, 3) := by decide +kernel
theorem dX3_hasBeast_30 : decode cX3_hasBeast 30 = .ok (.goto 8, 3) := by decide +kernel
theorem dX3_hasBeast_33 : decode cX3_hasBeast 33 = .ok (.aload_n 0, 1) := by decide +kernel
theorem dX3_hasBeast_34 : decode cX3_hasBeast 34 = .ok (.iconst 1, 1) := by decide +kernel
theorem dX3_hasBeast_35 : decode cX3_hasBeast 35 = .ok (.invokevirtual 82, 3) := by decide +kernel
theorem dX3_hasBeast_38 : decode cX3_hasBeast 38 = .ok (.ireturn, 1) := by decide +kernel
set_option maxRecDepth 20000 in
theorem ggX3_homeOf_X3_isFable : GoodIn wsX3_homeOf wsX3_isFable := goodIn_r _ [7, 8, 9, 10, 6, 11, 16, 17, 18, 19, 20, 21, 22, 23, 24, 25, 26, 27, 28, 29] (by decide +kernel) (by decide +kernel)
set_option maxRecDepth 20000 in
theorem gX3_homeOf_X3_isFable : GoodIn wsX3_homeOf (wsV RX3 73 RX3 yX3_isFable wsX3_isFable) := goodIn_app (goodIn_of _ (by decide +kernel)) ggX3_homeOf_X3_isFable
set_option maxRecDepth 20000 in
theorem ggX3_homeOf_X3_fail : GoodIn wsX3_homeOf wsX3_fail := goodIn_r _ [15, 1, 16, 17, 18, 19, 20, 21, 22, 23, 24, 25, 26, 27, 28, 29] (by decide +kernel) (by decide +kernel)
set_option maxRecDepth 20000 in
theorem gX3_homeOf_X3_fail : GoodIn wsX3_homeOf (wsV RX3 65 RX3 yX3_fail wsX3_fail) := goodIn_app (goodIn_of _ (by decide +kernel)) ggX3_homeOf_X3_fail
theorem dX3_homeOf_0 : decode cX3_homeOf 0 = .ok (.aload_n 0, 1) := by decide +kernel
theorem dX3_homeOf_1 : decode cX3_homeOf 1 = .ok (.iconst 0, 1) := by decide +kernel
theorem dX3_homeOf_2 : decode cX3_homeOf 2 = .ok (.putfield 40, 3) := by decide +kernel
theorem dX3_homeOf_5 : decode cX3_homeOf 5 = .ok (.aload_n 0, 1) := by decide +kernel
theorem dX3_homeOf_6 : decode cX3_homeOf 6 = .ok (.iload_n 1, 1) := by decide +kernel
theorem dX3_homeOf_7 : decode cX3_homeOf 7 = .ok (.invokevirtual 73, 3) := by decide +kernel
theorem dX3_homeOf_10 : decode cX3_homeOf 10 = .ok (.ifCond .eq 12, 3) := by decide +kernel
theorem dX3_homeOf_13 : decode cX3_homeOf 13 = .ok (.aload_n 0, 1) := by decide +kernel
theorem dX3_homeOf_14 : decode cX3_homeOf 14 = .ok (.getfield 16, 3) := by decide +kernel
theorem dX3_homeOf_17 : decode cX3_homeOf 17 = .ok (.iload_n 1, 1) := by decide +kernel
theorem dX3_homeOf_18 : decode cX3_homeOf 18 = .ok (.iaload, 1) := by decide +kernel
theorem dX3_homeOf_19 : decode cX3_homeOf 19 = .ok (.goto 8, 3) := by decide +kernel
theorem dX3_homeOf_22 : decode cX3_homeOf 22 = .ok (.aload_n 0, 1) := by decide +kernel
theorem dX3_homeOf_23 : decode cX3_homeOf 23 = .ok (.iconst 1, 1) := by decide +kernel
theorem dX3_homeOf_24 : decode cX3_homeOf 24 = .ok (.invokevirtual 65, 3) := by decide +kernel
theorem dX3_homeOf_27 : decode cX3_homeOf 27 = .ok (.ireturn, 1) := by decide +kernel
set_option maxRecDepth 20000 in
theorem ggX3_parentOf_X3_isFable : GoodIn wsX3_parentOf wsX3_isFable := goodIn_r _ [7, 8, 9, 10, 6, 11, 16, 17, 18, 19, 20, 21, 22, 23, 24, 25, 26, 27, 28, 29] (by decide +kernel) (by decide +kernel)
set_option maxRecDepth 20000 in
theorem gX3_parentOf_X3_isFable : GoodIn wsX3_parentOf (wsV RX3 73 RX3 yX3_isFable wsX3_isFable) := goodIn_app (goodIn_of _ (by decide +kernel)) ggX3_parentOf_X3_isFable
set_option maxRecDepth 20000 in
theorem ggX3_parentOf_X3_fail : GoodIn wsX3_parentOf wsX3_fail := goodIn_r _ [15, 1, 16, 17, 18, 19, 20, 21, 22, 23, 24, 25, 26, 27, 28, 29] (by decide +kernel) (by decide +kernel)
set_option maxRecDepth 20000 in
theorem gX3_parentOf_X3_fail : GoodIn wsX3_parentOf (wsV RX3 65 RX3 yX3_fail wsX3_fail) := goodIn_app (goodIn_of _ (by decide +kernel)) ggX3_parentOf_X3_fail
theorem dX3_parentOf_0 : decode cX3_parentOf 0 = .ok (.aload_n 0, 1) := by decide +kernel
theorem dX3_parentOf_1 : decode cX3_parentOf 1 = .ok (.iconst 0, 1) := by decide +kernel
theorem dX3_parentOf_2 : decode cX3_parentOf 2 = .ok (.putfield 40, 3) := by decide +kernel
theorem dX3_parentOf_5 : decode cX3_parentOf 5 = .ok (.aload_n 0, 1) := by decide +kernel
theorem dX3_parentOf_6 : decode cX3_parentOf 6 = .ok (.iload_n 1, 1) := by decide +kernel
theorem dX3_parentOf_7 : decode cX3_parentOf 7 = .ok (.invokevirtual 73, 3) := by decide +kernel
theorem dX3_parentOf_10 : decode cX3_parentOf 10 = .ok (.ifCond .eq 12, 3) := by decide +kernel
theorem dX3_parentOf_13 : decode cX3_parentOf 13 = .ok (.aload_n 0, 1) := by decide +kernel
theorem dX3_parentOf_14 : decode cX3_parentOf 14 = .ok (.getfield 19, 3) := by decide +kernel
theorem dX3_parentOf_17 : decode cX3_parentOf 17 = .ok (.iload_n 1, 1) := by decide +kernel
theorem dX3_parentOf_18 : decode cX3_parentOf 18 = .ok (.iaload, 1) := by decide +kernel
theorem dX3_parentOf_19 : decode cX3_parentOf 19 = .ok (.goto 8, 3) := by decide +kernel
theorem dX3_parentOf_22 : decode cX3_parentOf 22 = .ok (.aload_n 0, 1) := by decide +kernel
theorem dX3_parentOf_23 : decode cX3_parentOf 23 = .ok (.iconst 1, 1) := by decide +kernel
theorem dX3_parentOf_24 : decode cX3_parentOf 24 = .ok (.invokevirtual 65, 3) := by decide +kernel
theorem dX3_parentOf_27 : decode cX3_parentOf 27 = .ok (.ireturn, 1) := by decide +kernel
set_option maxRecDepth 20000 in
theorem ggX3_variantsOf_X3_isFable : GoodIn wsX3_variantsOf wsX3_isFable := goodIn_r _ [6, 7, 8, 9, 5, 10, 20, 21, 22, 23, 24, 25, 26, 27, 28, 29, 30, 31, 32, 33] (by decide +kernel) (by decide +kernel)
set_option maxRecDepth 20000 in
theorem gX3_variantsOf_X3_isFable : GoodIn wsX3_variantsOf (wsV RX3 73 RX3 yX3_isFable wsX3_isFable) := goodIn_app (goodIn_of _ (by decide +kernel)) ggX3_variantsOf_X3_isFable
set_option maxRecDepth 20000 in
theorem ggX3_variantsOf_X3_children : GoodIn wsX3_variantsOf wsX3_children := goodIn_r _ [14, 7, 15, 20, 21, 22, 23, 24, 25, 26, 27, 28, 29, 30, 31, 32, 33] (by decide +kernel) (by decide +kernel)
set_option maxRecDepth 20000 in
theorem gX3_variantsOf_X3_children : GoodIn wsX3_variantsOf (wsV RX3 76 RX3 yX3_children wsX3_children) := goodIn_app (goodIn_of _ (by decide +kernel)) ggX3_variantsOf_X3_children
set_option maxRecDepth 20000 in
theorem ggX3_variantsOf_X3_fail : GoodIn wsX3_variantsOf wsX3_fail := goodIn_r _ [19, 1, 20, 21, 22, 23, 24, 25, 26, 27, 28, 29, 30, 31, 32, 33] (by decide +kernel) (by decide +kernel)
set_option maxRecDepth 20000 in
theorem gX3_variantsOf_X3_fail : GoodIn wsX3_variantsOf (wsV RX3 65 RX3 yX3_fail wsX3_fail) := goodIn_app (goodIn_of _ (by decide +kernel)) ggX3_variantsOf_X3_fail
theorem dX3_variantsOf_0 : decode cX3_variantsOf 0 = .ok (.aload_n 0, 1) := by decide +kernel
theorem dX3_variantsOf_1 : decode cX3_variantsOf 1 = .ok (.iconst 0, 1) := by decide +kernel
theorem dX3_variantsOf_2 : decode cX3_variantsOf 2 = .ok (.putfield 40, 3) := by decide +kernel
theorem dX3_variantsOf_5 : decode cX3_variantsOf 5 = .ok (.aload_n 0, 1) := by decide +kernel
theorem dX3_variantsOf_6 : decode cX3_variantsOf 6 = .ok (.iload_n 1, 1) := by decide +kernel
theorem dX3_variantsOf_7 : decode cX3_variantsOf 7 = .ok (.invokevirtual 73, 3) := by decide +kernel
theorem dX3_variantsOf_10 : decode cX3_variantsOf 10 = .ok (.ifCond .eq 11, 3) := by decide +kernel
theorem dX3_variantsOf_13 : decode cX3_variantsOf 13 = .ok (.aload_n 0, 1) := by decide +kernel
theorem dX3_variantsOf_14 : decode cX3_variantsOf 14 = .ok (.iload_n 1, 1) := by decide +kernel
theorem dX3_variantsOf_15 : decode cX3_variantsOf 15 = .ok (.invokevirtual 76, 3) := by decide +kernel
theorem dX3_variantsOf_18 : decode cX3_variantsOf 18 = .ok (.goto 8, 3) := by decide +kernel
theorem dX3_variantsOf_21 : decode cX3_variantsOf 21 = .ok (.aload_n 0, 1) := by decide +kernel
theorem dX3_variantsOf_22 : decode cX3_variantsOf 22 = .ok (.iconst 1, 1) := by decide +kernel
theorem dX3_variantsOf_23 : decode cX3_variantsOf 23 = .ok (.invokevirtual 65, 3) := by decide +kernel
theorem dX3_variantsOf_26 : decode cX3_variantsOf 26 = .ok (.ireturn, 1) := by decide +kernel
set_option maxRecDepth 20000 in
theorem ggX3_valleysOf_X3_isFable : GoodIn wsX3_valleysOf wsX3_isFable := goodIn_r _ [6, 7, 8, 9, 5, 10, 23, 24, 25, 26, 27, 28, 29, 30, 31, 32, 33, 34, 35, 36] (by decide +kernel) (by decide +kernel)
set_option maxRecDepth 20000 in
theorem gX3_valleysOf_X3_isFable : GoodIn wsX3_valleysOf (wsV RX3 73 RX3 yX3_isFable wsX3_isFable) := goodIn_app (goodIn_of _ (by decide +kernel)) ggX3_valleysOf_X3_isFable
set_option maxRecDepth 20000 in
theorem ggX3_valleysOf_X3_placesOf : GoodIn wsX3_valleysOf wsX3_placesOf := goodIn_r _ [14, 15, 16, 17, 5, 18, 23, 24, 25, 26, 27, 28, 29, 30, 31, 32, 33, 34, 35, 36] (by decide +kernel) (by decide +kernel)
set_option maxRecDepth 20000 in
theorem gX3_valleysOf_X3_placesOf : GoodIn wsX3_valleysOf (wsV RX3 91 RX3 yX3_placesOf wsX3_placesOf) := goodIn_app (goodIn_of _ (by decide +kernel)) ggX3_valleysOf_X3_placesOf
set_option maxRecDepth 20000 in
theorem ggX3_valleysOf_X3_fail : GoodIn wsX3_valleysOf wsX3_fail := goodIn_r _ [22, 1, 23, 24, 25, 26, 27, 28, 29, 30, 31, 32, 33, 34, 35, 36] (by decide +kernel) (by decide +kernel)
set_option maxRecDepth 20000 in
theorem gX3_valleysOf_X3_fail : GoodIn wsX3_valleysOf (wsV RX3 65 RX3 yX3_fail wsX3_fail) := goodIn_app (goodIn_of _ (by decide +kernel)) ggX3_valleysOf_X3_fail
theorem dX3_valleysOf_0 : decode cX3_valleysOf 0 = .ok (.aload_n 0, 1) := by decide +kernel
theorem dX3_valleysOf_1 : decode cX3_valleysOf 1 = .ok (.iconst 0, 1) := by decide +kernel
theorem dX3_valleysOf_2 : decode cX3_valleysOf 2 = .ok (.putfield 40, 3) := by decide +kernel
theorem dX3_valleysOf_5 : decode cX3_valleysOf 5 = .ok (.aload_n 0, 1) := by decide +kernel
theorem dX3_valleysOf_6 : decode cX3_valleysOf 6 = .ok (.iload_n 1, 1) := by decide +kernel
theorem dX3_valleysOf_7 : decode cX3_valleysOf 7 = .ok (.invokevirtual 73, 3) := by decide +kernel
theorem dX3_valleysOf_10 : decode cX3_valleysOf 10 = .ok (.ifCond .eq 11, 3) := by decide +kernel
theorem dX3_valleysOf_13 : decode cX3_valleysOf 13 = .ok (.aload_n 0, 1) := by decide +kernel
theorem dX3_valleysOf_14 : decode cX3_valleysOf 14 = .ok (.iload_n 1, 1) := by decide +kernel
theorem dX3_valleysOf_15 : decode cX3_valleysOf 15 = .ok (.invokevirtual 91, 3) := by decide +kernel
theorem dX3_valleysOf_18 : decode cX3_valleysOf 18 = .ok (.goto 8, 3) := by decide +kernel
theorem dX3_valleysOf_21 : decode cX3_valleysOf 21 = .ok (.aload_n 0, 1) := by decide +kernel
theorem dX3_valleysOf_22 : decode cX3_valleysOf 22 = .ok (.iconst 1, 1) := by decide +kernel
theorem dX3_valleysOf_23 : decode cX3_valleysOf 23 = .ok (.invokevirtual 65, 3) := by decide +kernel
theorem dX3_valleysOf_26 : decode cX3_valleysOf 26 = .ok (.ireturn, 1) := by decide +kernel
theorem dX3_ancestors_0 : decode cX3_ancestors 0 = .ok (.iconst 0, 1) := by decide +kernel
theorem dX3_ancestors_1 : decode cX3_ancestors 1 = .ok (.istore_n 2, 1) := by decide +kernel
theorem dX3_ancestors_2 : decode cX3_ancestors 2 = .ok (.iload_n 1, 1) := by decide +kernel
theorem dX3_ancestors_3 : decode cX3_ancestors 3 = .ok (.istore_n 3, 1) := by decide +kernel
theorem dX3_ancestors_4 : decode cX3_ancestors 4 = .ok (.iload_n 3, 1) := by decide +kernel
theorem dX3_ancestors_5 : decode cX3_ancestors 5 = .ok (.iconst (-1), 1) := by decide +kernel
theorem dX3_ancestors_6 : decode cX3_ancestors 6 = .ok (.if_icmp .eq 19, 3) := by decide +kernel
theorem dX3_ancestors_9 : decode cX3_ancestors 9 = .ok (.iload_n 2, 1) := by decide +kernel
theorem dX3_ancestors_10 : decode cX3_ancestors 10 = .ok (.iconst 1, 1) := by decide +kernel
theorem dX3_ancestors_11 : decode cX3_ancestors 11 = .ok (.iload_n 3, 1) := by decide +kernel
theorem dX3_ancestors_12 : decode cX3_ancestors 12 = .ok (.ishl, 1) := by decide +kernel
theorem dX3_ancestors_13 : decode cX3_ancestors 13 = .ok (.ior, 1) := by decide +kernel
theorem dX3_ancestors_14 : decode cX3_ancestors 14 = .ok (.istore_n 2, 1) := by decide +kernel
theorem dX3_ancestors_15 : decode cX3_ancestors 15 = .ok (.aload_n 0, 1) := by decide +kernel
theorem dX3_ancestors_16 : decode cX3_ancestors 16 = .ok (.getfield 19, 3) := by decide +kernel
theorem dX3_ancestors_19 : decode cX3_ancestors 19 = .ok (.iload_n 3, 1) := by decide +kernel
theorem dX3_ancestors_20 : decode cX3_ancestors 20 = .ok (.iaload, 1) := by decide +kernel
theorem dX3_ancestors_21 : decode cX3_ancestors 21 = .ok (.istore_n 3, 1) := by decide +kernel
theorem dX3_ancestors_22 : decode cX3_ancestors 22 = .ok (.goto (-18), 3) := by decide +kernel
theorem dX3_ancestors_25 : decode cX3_ancestors 25 = .ok (.iload_n 2, 1) := by decide +kernel
theorem dX3_ancestors_26 : decode cX3_ancestors 26 = .ok (.ireturn, 1) := by decide +kernel
set_option maxRecDepth 20000 in
theorem ggX3_nearest_X3_ancestors : GoodIn wsX3_nearest wsX3_ancestors := goodIn_r _ [6, 7, 11, 12, 13, 14, 15, 16, 17, 18, 19, 20, 21, 22, 23, 24] (by decide +kernel) (by decide +kernel)
set_option maxRecDepth 20000 in
theorem gX3_nearest_X3_ancestors : GoodIn wsX3_nearest (wsV RX3 117 RX3 yX3_ancestors wsX3_ancestors) := goodIn_app (goodIn_of _ (by decide +kernel)) ggX3_nearest_X3_ancestors
set_option maxRecDepth 20000 in
theorem ggX3_nearest_X3_has : GoodIn wsX3_nearest wsX3_has := goodIn_r _ [10] (by decide +kernel) (by decide +kernel)
set_option maxRecDepth 20000 in
theorem gX3_nearest_X3_has : GoodIn wsX3_nearest (va_wsS RX3 51 yX3_has wsX3_has) := goodIn_app (goodIn_of _ (by decide +kernel)) ggX3_nearest_X3_has
theorem dX3_nearest_0 : decode cX3_nearest 0 = .ok (.aload_n 0, 1) := by decide +kernel
theorem dX3_nearest_1 : decode cX3_nearest 1 = .ok (.iload_n 1, 1) := by decide +kernel
theorem dX3_nearest_2 : decode cX3_nearest 2 = .ok (.invokevirtual 117, 3) := by decide +kernel
theorem dX3_nearest_5 : decode cX3_nearest 5 = .ok (.aload_n 0, 1) := by decide +kernel
theorem dX3_nearest_6 : decode cX3_nearest 6 = .ok (.iload_n 2, 1) := by decide +kernel
theorem dX3_nearest_7 : decode cX3_nearest 7 = .ok (.invokevirtual 117, 3) := by decide +kernel
theorem dX3_nearest_10 : decode cX3_nearest 10 = .ok (.iand, 1) := by decide +kernel
theorem dX3_nearest_11 : decode cX3_nearest 11 = .ok (.istore_n 3, 1) := by decide +kernel
theorem dX3_nearest_12 : decode cX3_nearest 12 = .ok (.aload_n 0, 1) := by decide +kernel
theorem dX3_nearest_13 : decode cX3_nearest 13 = .ok (.getfield 44, 3) := by decide +kernel
theorem dX3_nearest_16 : decode cX3_nearest 16 = .ok (.iconst 1, 1) := by decide +kernel
theorem dX3_nearest_17 : decode cX3_nearest 17 = .ok (.isub, 1) := by decide +kernel
theorem dX3_nearest_18 : decode cX3_nearest 18 = .ok (.istore 4, 2) := by decide +kernel
theorem dX3_nearest_20 : decode cX3_nearest 20 = .ok (.iload 4, 2) := by decide +kernel
theorem dX3_nearest_22 : decode cX3_nearest 22 = .ok (.ifCond .lt 18, 3) := by decide +kernel
theorem dX3_nearest_25 : decode cX3_nearest 25 = .ok (.iload_n 3, 1) := by decide +kernel
theorem dX3_nearest_26 : decode cX3_nearest 26 = .ok (.iload 4, 2) := by decide +kernel
theorem dX3_nearest_28 : decode cX3_nearest 28 = .ok (.invokestatic 51, 3) := by decide +kernel
theorem dX3_nearest_31 : decode cX3_nearest 31 = .ok (.ifCond .ne 9, 3) := by decide +kernel
theorem dX3_nearest_34 : decode cX3_nearest 34 = .ok (.iinc 4 (-1), 3) := by decide +kernel
theorem dX3_nearest_37 : decode cX3_nearest 37 = .ok (.goto (-17), 3) := by decide +kernel
theorem dX3_nearest_40 : decode cX3_nearest 40 = .ok (.iload 4, 2) := by decide +kernel
theorem dX3_nearest_42 : decode cX3_nearest 42 = .ok (.ireturn, 1) := by decide +kernel
set_option maxRecDepth 20000 in
theorem ggX3_nearestAncestor_X3_isFable : GoodIn wsX3_nearestAncestor wsX3_isFable := goodIn_r _ [6, 7, 8, 9, 5, 10, 27, 28, 29, 30, 31, 32, 33, 34, 35, 36, 37, 38, 39, 40] (by decide +kernel) (by decide +kernel)
set_option maxRecDepth 20000 in
theorem gX3_nearestAncestor_X3_isFable : GoodIn wsX3_nearestAncestor (wsV RX3 73 RX3 yX3_isFable wsX3_isFable) := goodIn_app (goodIn_of _ (by decide +kernel)) ggX3_nearestAncestor_X3_isFable
set_option maxRecDepth 20000 in
theorem ggX3_nearestAncestor_X3_nearest : GoodIn wsX3_nearestAncestor wsX3_nearest := goodIn_r _ [14, 7, 15, 16, 17, 5, 18, 19, 20, 21, 22, 27, 28, 29, 30, 31, 32, 33, 34, 35, 36, 37, 38, 39, 40] (by decide +kernel) (by decide +kernel)
set_option maxRecDepth 20000 in
theorem gX3_nearestAncestor_X3_nearest : GoodIn wsX3_nearestAncestor (wsV RX3 120 RX3 yX3_nearest wsX3_nearest) := goodIn_app (goodIn_of _ (by decide +kernel)) ggX3_nearestAncestor_X3_nearest
set_option maxRecDepth 20000 in
theorem ggX3_nearestAncestor_X3_fail : GoodIn wsX3_nearestAncestor wsX3_fail := goodIn_r _ [26, 1, 27, 28, 29, 30, 31, 32, 33, 34, 35, 36, 37, 38, 39, 40] (by decide +kernel) (by decide +kernel)
set_option maxRecDepth 20000 in
theorem gX3_nearestAncestor_X3_fail : GoodIn wsX3_nearestAncestor (wsV RX3 65 RX3 yX3_fail wsX3_fail) := goodIn_app (goodIn_of _ (by decide +kernel)) ggX3_nearestAncestor_X3_fail
theorem dX3_nearestAncestor_0 : decode cX3_nearestAncestor 0 = .ok (.aload_n 0, 1) := by decide +kernel
theorem dX3_nearestAncestor_1 : decode cX3_nearestAncestor 1 = .ok (.iconst 0, 1) := by decide +kernel
theorem dX3_nearestAncestor_2 : decode cX3_nearestAncestor 2 = .ok (.putfield 40, 3) := by decide +kernel
theorem dX3_nearestAncestor_5 : decode cX3_nearestAncestor 5 = .ok (.aload_n 0, 1) := by decide +kernel
theorem dX3_nearestAncestor_6 : decode cX3_nearestAncestor 6 = .ok (.iload_n 1, 1) := by decide +kernel
theorem dX3_nearestAncestor_7 : decode cX3_nearestAncestor 7 = .ok (.invokevirtual 73, 3) := by decide +kernel
theorem dX3_nearestAncestor_10 : decode cX3_nearestAncestor 10 = .ok (.ifCond .eq 20, 3) := by decide +kernel
theorem dX3_nearestAncestor_13 : decode cX3_nearestAncestor 13 = .ok (.aload_n 0, 1) := by decide +kernel
theorem dX3_nearestAncestor_14 : decode cX3_nearestAncestor 14 = .ok (.iload_n 2, 1) := by decide +kernel
theorem dX3_nearestAncestor_15 : decode cX3_nearestAncestor 15 = .ok (.invokevirtual 73, 3) := by decide +kernel
theorem dX3_nearestAncestor_18 : decode cX3_nearestAncestor 18 = .ok (.ifCond .eq 12, 3) := by decide +kernel
theorem dX3_nearestAncestor_21 : decode cX3_nearestAncestor 21 = .ok (.aload_n 0, 1) := by decide +kernel
theorem dX3_nearestAncestor_22 : decode cX3_nearestAncestor 22 = .ok (.iload_n 1, 1) := by decide +kernel
theorem dX3_nearestAncestor_23 : decode cX3_nearestAncestor 23 = .ok (.iload_n 2, 1) := by decide +kernel
theorem dX3_nearestAncestor_24 : decode cX3_nearestAncestor 24 = .ok (.invokevirtual 120, 3) := by decide +kernel
theorem dX3_nearestAncestor_27 : decode cX3_nearestAncestor 27 = .ok (.goto 8, 3) := by decide +kernel
theorem dX3_nearestAncestor_30 : decode cX3_nearestAncestor 30 = .ok (.aload_n 0, 1) := by decide +kernel
theorem dX3_nearestAncestor_31 : decode cX3_nearestAncestor 31 = .ok (.iconst 1, 1) := by decide +kernel
theorem dX3_nearestAncestor_32 : decode cX3_nearestAncestor 32 = .ok (.invokevirtual 65, 3) := by decide +kernel
theorem dX3_nearestAncestor_35 : decode cX3_nearestAncestor 35 = .ok (.ireturn, 1) := by decide +kernel
set_option maxRecDepth 20000 in
theorem ggX3_kinship_X3_isFable : GoodIn wsX3_kinship wsX3_isFable := goodIn_r _ [6, 7, 8, 9, 5, 10, 30, 31, 32, 33, 34, 35, 36, 37, 38, 39, 40, 41, 42, 43] (by decide +kernel) (by decide +kernel)
set_option maxRecDepth 20000 in
theorem gX3_kinship_X3_isFable : GoodIn wsX3_kinship (wsV RX3 73 RX3 yX3_isFable wsX3_isFable) := goodIn_app (goodIn_of _ (by decide +kernel)) ggX3_kinship_X3_isFable
set_option maxRecDepth 20000 in
theorem ggX3_kinship_X3_fail : GoodIn wsX3_kinship wsX3_fail := goodIn_r _ [14, 1, 30, 31, 32, 33, 34, 35, 36, 37, 38, 39, 40, 41, 42, 43] (by decide +kernel) (by decide +kernel)
set_option maxRecDepth 20000 in
theorem gX3_kinship_X3_fail : GoodIn wsX3_kinship (wsV RX3 65 RX3 yX3_fail wsX3_fail) := goodIn_app (goodIn_of _ (by decide +kernel)) ggX3_kinship_X3_fail
set_option maxRecDepth 20000 in
theorem ggX3_kinship_X3_nearest : GoodIn wsX3_kinship wsX3_nearest := goodIn_r _ [18, 7, 19, 20, 21, 5, 22, 23, 24, 25, 26, 30, 31, 32, 33, 34, 35, 36, 37, 38, 39, 40, 41, 42, 43] (by decide +kernel) (by decide +kernel)
set_option maxRecDepth 20000 in
theorem gX3_kinship_X3_nearest : GoodIn wsX3_kinship (wsV RX3 120 RX3 yX3_nearest wsX3_nearest) := goodIn_app (goodIn_of _ (by decide +kernel)) ggX3_kinship_X3_nearest
set_option maxRecDepth 20000 in
theorem ggX3_kinship_X3_ancestors : GoodIn wsX3_kinship wsX3_ancestors := goodIn_r _ [22, 23, 30, 31, 32, 33, 34, 35, 36, 37, 38, 39, 40, 41, 42, 43] (by decide +kernel) (by decide +kernel)
set_option maxRecDepth 20000 in
theorem gX3_kinship_X3_ancestors : GoodIn wsX3_kinship (wsV RX3 117 RX3 yX3_ancestors wsX3_ancestors) := goodIn_app (goodIn_of _ (by decide +kernel)) ggX3_kinship_X3_ancestors
set_option maxRecDepth 20000 in
theorem ggX3_kinship_X3_many : GoodIn wsX3_kinship wsX3_many := goodIn_r _ [29] (by decide +kernel) (by decide +kernel)
set_option maxRecDepth 20000 in
theorem gX3_kinship_X3_many : GoodIn wsX3_kinship (va_wsS RX3 79 yX3_many wsX3_many) := goodIn_app (goodIn_of _ (by decide +kernel)) ggX3_kinship_X3_many
theorem dX3_kinship_0 : decode cX3_kinship 0 = .ok (.aload_n 0, 1) := by decide +kernel
theorem dX3_kinship_1 : decode cX3_kinship 1 = .ok (.iconst 0, 1) := by decide +kernel
theorem dX3_kinship_2 : decode cX3_kinship 2 = .ok (.putfield 40, 3) := by decide +kernel
theorem dX3_kinship_5 : decode cX3_kinship 5 = .ok (.aload_n 0, 1) := by decide +kernel
theorem dX3_kinship_6 : decode cX3_kinship 6 = .ok (.iload_n 1, 1) := by decide +kernel
theorem dX3_kinship_7 : decode cX3_kinship 7 = .ok (.invokevirtual 73, 3) := by decide +kernel
theorem dX3_kinship_10 : decode cX3_kinship 10 = .ok (.ifCond .eq 11, 3) := by decide +kernel
theorem dX3_kinship_13 : decode cX3_kinship 13 = .ok (.aload_n 0, 1) := by decide +kernel
theorem dX3_kinship_14 : decode cX3_kinship 14 = .ok (.iload_n 2, 1) := by decide +kernel
theorem dX3_kinship_15 : decode cX3_kinship 15 = .ok (.invokevirtual 73, 3) := by decide +kernel
theorem dX3_kinship_18 : decode cX3_kinship 18 = .ok (.ifCond .ne 9, 3) := by decide +kernel
theorem dX3_kinship_21 : decode cX3_kinship 21 = .ok (.aload_n 0, 1) := by decide +kernel
theorem dX3_kinship_22 : decode cX3_kinship 22 = .ok (.iconst 1, 1) := by decide +kernel
theorem dX3_kinship_23 : decode cX3_kinship 23 = .ok (.invokevirtual 65, 3) := by decide +kernel
theorem dX3_kinship_26 : decode cX3_kinship 26 = .ok (.ireturn, 1) := by decide +kernel
theorem dX3_kinship_27 : decode cX3_kinship 27 = .ok (.aload_n 0, 1) := by decide +kernel
theorem dX3_kinship_28 : decode cX3_kinship 28 = .ok (.iload_n 1, 1) := by decide +kernel
theorem dX3_kinship_29 : decode cX3_kinship 29 = .ok (.iload_n 2, 1) := by decide +kernel
theorem dX3_kinship_30 : decode cX3_kinship 30 = .ok (.invokevirtual 120, 3) := by decide +kernel
theorem dX3_kinship_33 : decode cX3_kinship 33 = .ok (.istore_n 3, 1) := by decide +kernel
theorem dX3_kinship_34 : decode cX3_kinship 34 = .ok (.iload_n 3, 1) := by decide +kernel
theorem dX3_kinship_35 : decode cX3_kinship 35 = .ok (.iconst (-1), 1) := by decide +kernel
theorem dX3_kinship_36 : decode cX3_kinship 36 = .ok (.if_icmp .ne 7, 3) := by decide +kernel
theorem dX3_kinship_39 : decode cX3_kinship 39 = .ok (.iconst (-1), 1) := by decide +kernel
theorem dX3_kinship_40 : decode cX3_kinship 40 = .ok (.goto 17, 3) := by decide +kernel
theorem dX3_kinship_43 : decode cX3_kinship 43 = .ok (.aload_n 0, 1) := by decide +kernel
theorem dX3_kinship_44 : decode cX3_kinship 44 = .ok (.iload_n 1, 1) := by decide +kernel
theorem dX3_kinship_45 : decode cX3_kinship 45 = .ok (.invokevirtual 117, 3) := by decide +kernel
theorem dX3_kinship_48 : decode cX3_kinship 48 = .ok (.aload_n 0, 1) := by decide +kernel
theorem dX3_kinship_49 : decode cX3_kinship 49 = .ok (.iload_n 2, 1) := by decide +kernel
theorem dX3_kinship_50 : decode cX3_kinship 50 = .ok (.invokevirtual 117, 3) := by decide +kernel
theorem dX3_kinship_53 : decode cX3_kinship 53 = .ok (.ixor, 1) := by decide +kernel
theorem dX3_kinship_54 : decode cX3_kinship 54 = .ok (.invokestatic 79, 3) := by decide +kernel
theorem dX3_kinship_57 : decode cX3_kinship 57 = .ok (.ireturn, 1) := by decide +kernel
set_option maxRecDepth 20000 in
theorem ggX3_sharedBeasts_X3_isFable : GoodIn wsX3_sharedBeasts wsX3_isFable := goodIn_r _ [7, 8, 9, 10, 6, 11, 19, 20, 21, 22, 23, 24, 25, 26, 27, 28, 29, 30, 31, 32] (by decide +kernel) (by decide +kernel)
set_option maxRecDepth 20000 in
theorem gX3_sharedBeasts_X3_isFable : GoodIn wsX3_sharedBeasts (wsV RX3 73 RX3 yX3_isFable wsX3_isFable) := goodIn_app (goodIn_of _ (by decide +kernel)) ggX3_sharedBeasts_X3_isFable
set_option maxRecDepth 20000 in
theorem ggX3_sharedBeasts_X3_many : GoodIn wsX3_sharedBeasts wsX3_many := goodIn_r _ [14] (by decide +kernel) (by decide +kernel)
set_option maxRecDepth 20000 in
theorem gX3_sharedBeasts_X3_many : GoodIn wsX3_sharedBeasts (va_wsS RX3 79 yX3_many wsX3_many) := goodIn_app (goodIn_of _ (by decide +kernel)) ggX3_sharedBeasts_X3_many
set_option maxRecDepth 20000 in
theorem ggX3_sharedBeasts_X3_fail : GoodIn wsX3_sharedBeasts wsX3_fail := goodIn_r _ [18, 1, 19, 20, 21, 22, 23, 24, 25, 26, 27, 28, 29, 30, 31, 32] (by decide +kernel) (by decide +kernel)
set_option maxRecDepth 20000 in
theorem gX3_sharedBeasts_X3_fail : GoodIn wsX3_sharedBeasts (wsV RX3 65 RX3 yX3_fail wsX3_fail) := goodIn_app (goodIn_of _ (by decide +kernel)) ggX3_sharedBeasts_X3_fail
theorem dX3_sharedBeasts_0 : decode cX3_sharedBeasts 0 = .ok (.aload_n 0, 1) := by decide +kernel
theorem dX3_sharedBeasts_1 : decode cX3_sharedBeasts 1 = .ok (.iconst 0, 1) := by decide +kernel
theorem dX3_sharedBeasts_2 : decode cX3_sharedBeasts 2 = .ok (.putfield 40, 3) := by decide +kernel
theorem dX3_sharedBeasts_5 : decode cX3_sharedBeasts 5 = .ok (.aload_n 0, 1) := by decide +kernel
theorem dX3_sharedBeasts_6 : decode cX3_sharedBeasts 6 = .ok (.iload_n 1, 1) := by decide +kernel
theorem dX3_sharedBeasts_7 : decode cX3_sharedBeasts 7 = .ok (.invokevirtual 73, 3) := by decide +kernel
theorem dX3_sharedBeasts_10 : decode cX3_sharedBeasts 10 = .ok (.ifCond .eq 30, 3) := by decide +kernel
theorem dX3_sharedBeasts_13 : decode cX3_sharedBeasts 13 = .ok (.aload_n 0, 1) := by decide +kernel
theorem dX3_sharedBeasts_14 : decode cX3_sharedBeasts 14 = .ok (.iload_n 2, 1) := by decide +kernel
theorem dX3_sharedBeasts_15 : decode cX3_sharedBeasts 15 = .ok (.invokevirtual 73, 3) := by decide +kernel
theorem dX3_sharedBeasts_18 : decode cX3_sharedBeasts 18 = .ok (.ifCond .eq 22, 3) := by decide +kernel
theorem dX3_sharedBeasts_21 : decode cX3_sharedBeasts 21 = .ok (.aload_n 0, 1) := by decide +kernel
theorem dX3_sharedBeasts_22 : decode cX3_sharedBeasts 22 = .ok (.getfield 13, 3) := by decide +kernel
theorem dX3_sharedBeasts_25 : decode cX3_sharedBeasts 25 = .ok (.iload_n 1, 1) := by decide +kernel
theorem dX3_sharedBeasts_26 : decode cX3_sharedBeasts 26 = .ok (.iaload, 1) := by decide +kernel
theorem dX3_sharedBeasts_27 : decode cX3_sharedBeasts 27 = .ok (.aload_n 0, 1) := by decide +kernel
theorem dX3_sharedBeasts_28 : decode cX3_sharedBeasts 28 = .ok (.getfield 13, 3) := by decide +kernel
theorem dX3_sharedBeasts_31 : decode cX3_sharedBeasts 31 = .ok (.iload_n 2, 1) := by decide +kernel
theorem dX3_sharedBeasts_32 : decode cX3_sharedBeasts 32 = .ok (.iaload, 1) := by decide +kernel
theorem dX3_sharedBeasts_33 : decode cX3_sharedBeasts 33 = .ok (.iand, 1) := by decide +kernel
theorem dX3_sharedBeasts_34 : decode cX3_sharedBeasts 34 = .ok (.invokestatic 79, 3) := by decide +kernel
theorem dX3_sharedBeasts_37 : decode cX3_sharedBeasts 37 = .ok (.goto 8, 3) := by decide +kernel
theorem dX3_sharedBeasts_40 : decode cX3_sharedBeasts 40 = .ok (.aload_n 0, 1) := by decide +kernel
theorem dX3_sharedBeasts_41 : decode cX3_sharedBeasts 41 = .ok (.iconst 1, 1) := by decide +kernel
theorem dX3_sharedBeasts_42 : decode cX3_sharedBeasts 42 = .ok (.invokevirtual 65, 3) := by decide +kernel
theorem dX3_sharedBeasts_45 : decode cX3_sharedBeasts 45 = .ok (.ireturn, 1) := by decide +kernel
set_option maxRecDepth 20000 in
theorem ggX3_isOpen_X3_isValley : GoodIn wsX3_isOpen wsX3_isValley := goodIn_r _ [6, 7, 8, 5, 9] (by decide +kernel) (by decide +kernel)
set_option maxRecDepth 20000 in
theorem gX3_isOpen_X3_isValley : GoodIn wsX3_isOpen (va_wsS RX3 62 yX3_isValley wsX3_isValley) := goodIn_app (goodIn_of _ (by decide +kernel)) ggX3_isOpen_X3_isValley
set_option maxRecDepth 20000 in
theorem ggX3_isOpen_X3_has : GoodIn wsX3_isOpen wsX3_has := goodIn_r _ [12] (by decide +kernel) (by decide +kernel)
set_option maxRecDepth 20000 in
theorem gX3_isOpen_X3_has : GoodIn wsX3_isOpen (va_wsS RX3 51 yX3_has wsX3_has) := goodIn_app (goodIn_of _ (by decide +kernel)) ggX3_isOpen_X3_has
set_option maxRecDepth 20000 in
theorem ggX3_isOpen_X3_failed : GoodIn wsX3_isOpen wsX3_failed := goodIn_r _ [16, 1, 17, 18, 19, 20, 21, 22, 23, 24, 25, 26, 27, 28, 29, 30] (by decide +kernel) (by decide +kernel)
set_option maxRecDepth 20000 in
theorem gX3_isOpen_X3_failed : GoodIn wsX3_isOpen (wsV RX3 82 RX3 yX3_failed wsX3_failed) := goodIn_app (goodIn_of _ (by decide +kernel)) ggX3_isOpen_X3_failed
theorem dX3_isOpen_0 : decode cX3_isOpen 0 = .ok (.aload_n 0, 1) := by decide +kernel
theorem dX3_isOpen_1 : decode cX3_isOpen 1 = .ok (.iconst 0, 1) := by decide +kernel
theorem dX3_isOpen_2 : decode cX3_isOpen 2 = .ok (.putfield 40, 3) := by decide +kernel
theorem dX3_isOpen_5 : decode cX3_isOpen 5 = .ok (.iload_n 1, 1) := by decide +kernel
theorem dX3_isOpen_6 : decode cX3_isOpen 6 = .ok (.invokestatic 62, 3) := by decide +kernel
theorem dX3_isOpen_9 : decode cX3_isOpen 9 = .ok (.ifCond .eq 23, 3) := by decide +kernel
theorem dX3_isOpen_12 : decode cX3_isOpen 12 = .ok (.iload_n 2, 1) := by decide +kernel
theorem dX3_isOpen_13 : decode cX3_isOpen 13 = .ok (.invokestatic 62, 3) := by decide +kernel
theorem dX3_isOpen_16 : decode cX3_isOpen 16 = .ok (.ifCond .eq 16, 3) := by decide +kernel
theorem dX3_isOpen_19 : decode cX3_isOpen 19 = .ok (.aload_n 0, 1) := by decide +kernel
theorem dX3_isOpen_20 : decode cX3_isOpen 20 = .ok (.getfield 31, 3) := by decide +kernel
theorem dX3_isOpen_23 : decode cX3_isOpen 23 = .ok (.iload_n 1, 1) := by decide +kernel
theorem dX3_isOpen_24 : decode cX3_isOpen 24 = .ok (.iaload, 1) := by decide +kernel
theorem dX3_isOpen_25 : decode cX3_isOpen 25 = .ok (.iload_n 2, 1) := by decide +kernel
theorem dX3_isOpen_26 : decode cX3_isOpen 26 = .ok (.invokestatic 51, 3) := by decide +kernel
theorem dX3_isOpen_29 : decode cX3_isOpen 29 = .ok (.goto 8, 3) := by decide +kernel
theorem dX3_isOpen_32 : decode cX3_isOpen 32 = .ok (.aload_n 0, 1) := by decide +kernel
theorem dX3_isOpen_33 : decode cX3_isOpen 33 = .ok (.iconst 1, 1) := by decide +kernel
theorem dX3_isOpen_34 : decode cX3_isOpen 34 = .ok (.invokevirtual 82, 3) := by decide +kernel
theorem dX3_isOpen_37 : decode cX3_isOpen 37 = .ok (.ireturn, 1) := by decide +kernel
set_option maxRecDepth 20000 in
theorem ggX3_isBanned_X3_isPlace : GoodIn wsX3_isBanned wsX3_isPlace := goodIn_r _ [6, 7, 8, 9, 5, 10, 11, 12, 13, 14, 15, 16, 17, 33, 34, 35, 36, 37, 38, 39, 40, 41, 42, 43, 44, 45, 46] (by decide +kernel) (by decide +kernel)
set_option maxRecDepth 20000 in
theorem gX3_isBanned_X3_isPlace : GoodIn wsX3_isBanned (wsV RX3 85 RX3 yX3_isPlace wsX3_isPlace) := goodIn_app (goodIn_of _ (by decide +kernel)) ggX3_isBanned_X3_isPlace
set_option maxRecDepth 20000 in
theorem ggX3_isBanned_X3_banned : GoodIn wsX3_isBanned wsX3_banned := goodIn_r _ [21, 22, 23, 24, 25, 26, 27, 5, 28, 33, 34, 35, 36, 37, 38, 39, 40, 41, 42, 43, 44, 45, 46] (by decide +kernel) (by decide +kernel)
set_option maxRecDepth 20000 in
theorem gX3_isBanned_X3_banned : GoodIn wsX3_isBanned (wsV RX3 88 RX3 yX3_banned wsX3_banned) := goodIn_app (goodIn_of _ (by decide +kernel)) ggX3_isBanned_X3_banned
set_option maxRecDepth 20000 in
theorem ggX3_isBanned_X3_failed : GoodIn wsX3_isBanned wsX3_failed := goodIn_r _ [32, 1, 33, 34, 35, 36, 37, 38, 39, 40, 41, 42, 43, 44, 45, 46] (by decide +kernel) (by decide +kernel)
set_option maxRecDepth 20000 in
theorem gX3_isBanned_X3_failed : GoodIn wsX3_isBanned (wsV RX3 82 RX3 yX3_failed wsX3_failed) := goodIn_app (goodIn_of _ (by decide +kernel)) ggX3_isBanned_X3_failed
theorem dX3_isBanned_0 : decode cX3_isBanned 0 = .ok (.aload_n 0, 1) := by decide +kernel
theorem dX3_isBanned_1 : decode cX3_isBanned 1 = .ok (.iconst 0, 1) := by decide +kernel
theorem dX3_isBanned_2 : decode cX3_isBanned 2 = .ok (.putfield 40, 3) := by decide +kernel
theorem dX3_isBanned_5 : decode cX3_isBanned 5 = .ok (.aload_n 0, 1) := by decide +kernel
theorem dX3_isBanned_6 : decode cX3_isBanned 6 = .ok (.iload_n 1, 1) := by decide +kernel
theorem dX3_isBanned_7 : decode cX3_isBanned 7 = .ok (.iload_n 2, 1) := by decide +kernel
theorem dX3_isBanned_8 : decode cX3_isBanned 8 = .ok (.invokevirtual 85, 3) := by decide +kernel
theorem dX3_isBanned_11 : decode cX3_isBanned 11 = .ok (.ifCond .eq 12, 3) := by decide +kernel
theorem dX3_isBanned_14 : decode cX3_isBanned 14 = .ok (.aload_n 0, 1) := by decide +kernel
theorem dX3_isBanned_15 : decode cX3_isBanned 15 = .ok (.iload_n 1, 1) := by decide +kernel
theorem dX3_isBanned_16 : decode cX3_isBanned 16 = .ok (.iload_n 2, 1) := by decide +kernel
theorem dX3_isBanned_17 : decode cX3_isBanned 17 = .ok (.invokevirtual 88, 3) := by decide +kernel
theorem dX3_isBanned_20 : decode cX3_isBanned 20 = .ok (.goto 8, 3) := by decide +kernel
theorem dX3_isBanned_23 : decode cX3_isBanned 23 = .ok (.aload_n 0, 1) := by decide +kernel
theorem dX3_isBanned_24 : decode cX3_isBanned 24 = .ok (.iconst 1, 1) := by decide +kernel
theorem dX3_isBanned_25 : decode cX3_isBanned 25 = .ok (.invokevirtual 82, 3) := by decide +kernel
theorem dX3_isBanned_28 : decode cX3_isBanned 28 = .ok (.ireturn, 1) := by decide +kernel
set_option maxRecDepth 20000 in
theorem ggX3_isTold_X3_isPlace : GoodIn wsX3_isTold wsX3_isPlace := goodIn_r _ [7, 8, 9, 10, 6, 11, 12, 13, 14, 15, 16, 17, 18, 26, 27, 28, 29, 30, 31, 32, 33, 34, 35, 36, 37, 38, 39] (by decide +kernel) (by decide +kernel)
set_option maxRecDepth 20000 in
theorem gX3_isTold_X3_isPlace : GoodIn wsX3_isTold (wsV RX3 85 RX3 yX3_isPlace wsX3_isPlace) := goodIn_app (goodIn_of _ (by decide +kernel)) ggX3_isTold_X3_isPlace
set_option maxRecDepth 20000 in
theorem ggX3_isTold_X3_has : GoodIn wsX3_isTold wsX3_has := goodIn_r _ [21] (by decide +kernel) (by decide +kernel)
set_option maxRecDepth 20000 in
theorem gX3_isTold_X3_has : GoodIn wsX3_isTold (va_wsS RX3 51 yX3_has wsX3_has) := goodIn_app (goodIn_of _ (by decide +kernel)) ggX3_isTold_X3_has
set_option maxRecDepth 20000 in
theorem ggX3_isTold_X3_failed : GoodIn wsX3_isTold wsX3_failed := goodIn_r _ [25, 1, 26, 27, 28, 29, 30, 31, 32, 33, 34, 35, 36, 37, 38, 39] (by decide +kernel) (by decide +kernel)
set_option maxRecDepth 20000 in
theorem gX3_isTold_X3_failed : GoodIn wsX3_isTold (wsV RX3 82 RX3 yX3_failed wsX3_failed) := goodIn_app (goodIn_of _ (by decide +kernel)) ggX3_isTold_X3_failed
theorem dX3_isTold_0 : decode cX3_isTold 0 = .ok (.aload_n 0, 1) := by decide +kernel
theorem dX3_isTold_1 : decode cX3_isTold 1 = .ok (.iconst 0, 1) := by decide +kernel
theorem dX3_isTold_2 : decode cX3_isTold 2 = .ok (.putfield 40, 3) := by decide +kernel
theorem dX3_isTold_5 : decode cX3_isTold 5 = .ok (.aload_n 0, 1) := by decide +kernel
theorem dX3_isTold_6 : decode cX3_isTold 6 = .ok (.iload_n 1, 1) := by decide +kernel
theorem dX3_isTold_7 : decode cX3_isTold 7 = .ok (.iload_n 2, 1) := by decide +kernel
theorem dX3_isTold_8 : decode cX3_isTold 8 = .ok (.invokevirtual 85, 3) := by decide +kernel
theorem dX3_isTold_11 : decode cX3_isTold 11 = .ok (.ifCond .eq 16, 3) := by decide +kernel
theorem dX3_isTold_14 : decode cX3_isTold 14 = .ok (.aload_n 0, 1) := by decide +kernel
theorem dX3_isTold_15 : decode cX3_isTold 15 = .ok (.getfield 22, 3) := by decide +kernel
theorem dX3_isTold_18 : decode cX3_isTold 18 = .ok (.iload_n 2, 1) := by decide +kernel
theorem dX3_isTold_19 : decode cX3_isTold 19 = .ok (.iaload, 1) := by decide +kernel
theorem dX3_isTold_20 : decode cX3_isTold 20 = .ok (.iload_n 1, 1) := by decide +kernel
theorem dX3_isTold_21 : decode cX3_isTold 21 = .ok (.invokestatic 51, 3) := by decide +kernel
theorem dX3_isTold_24 : decode cX3_isTold 24 = .ok (.goto 8, 3) := by decide +kernel
theorem dX3_isTold_27 : decode cX3_isTold 27 = .ok (.aload_n 0, 1) := by decide +kernel
theorem dX3_isTold_28 : decode cX3_isTold 28 = .ok (.iconst 1, 1) := by decide +kernel
theorem dX3_isTold_29 : decode cX3_isTold 29 = .ok (.invokevirtual 82, 3) := by decide +kernel
theorem dX3_isTold_32 : decode cX3_isTold 32 = .ok (.ireturn, 1) := by decide +kernel
set_option maxRecDepth 20000 in
theorem ggX3_toldIn_X3_isValley : GoodIn wsX3_toldIn wsX3_isValley := goodIn_r _ [6, 7, 8, 5, 9] (by decide +kernel) (by decide +kernel)
set_option maxRecDepth 20000 in
theorem gX3_toldIn_X3_isValley : GoodIn wsX3_toldIn (va_wsS RX3 62 yX3_isValley wsX3_isValley) := goodIn_app (goodIn_of _ (by decide +kernel)) ggX3_toldIn_X3_isValley
set_option maxRecDepth 20000 in
theorem ggX3_toldIn_X3_many : GoodIn wsX3_toldIn wsX3_many := goodIn_r _ [12] (by decide +kernel) (by decide +kernel)
set_option maxRecDepth 20000 in
theorem gX3_toldIn_X3_many : GoodIn wsX3_toldIn (va_wsS RX3 79 yX3_many wsX3_many) := goodIn_app (goodIn_of _ (by decide +kernel)) ggX3_toldIn_X3_many
set_option maxRecDepth 20000 in
theorem ggX3_toldIn_X3_fail : GoodIn wsX3_toldIn wsX3_fail := goodIn_r _ [16, 1, 17, 18, 19, 20, 21, 22, 23, 24, 25, 26, 27, 28, 29, 30] (by decide +kernel) (by decide +kernel)
set_option maxRecDepth 20000 in
theorem gX3_toldIn_X3_fail : GoodIn wsX3_toldIn (wsV RX3 65 RX3 yX3_fail wsX3_fail) := goodIn_app (goodIn_of _ (by decide +kernel)) ggX3_toldIn_X3_fail
theorem dX3_toldIn_0 : decode cX3_toldIn 0 = .ok (.aload_n 0, 1) := by decide +kernel
theorem dX3_toldIn_1 : decode cX3_toldIn 1 = .ok (.iconst 0, 1) := by decide +kernel
theorem dX3_toldIn_2 : decode cX3_toldIn 2 = .ok (.putfield 40, 3) := by decide +kernel
theorem dX3_toldIn_5 : decode cX3_toldIn 5 = .ok (.iload_n 1, 1) := by decide +kernel
theorem dX3_toldIn_6 : decode cX3_toldIn 6 = .ok (.invokestatic 62, 3) := by decide +kernel
theorem dX3_toldIn_9 : decode cX3_toldIn 9 = .ok (.ifCond .eq 15, 3) := by decide +kernel
theorem dX3_toldIn_12 : decode cX3_toldIn 12 = .ok (.aload_n 0, 1) := by decide +kernel
theorem dX3_toldIn_13 : decode cX3_toldIn 13 = .ok (.getfield 22, 3) := by decide +kernel
theorem dX3_toldIn_16 : decode cX3_toldIn 16 = .ok (.iload_n 1, 1) := by decide +kernel
theorem dX3_toldIn_17 : decode cX3_toldIn 17 = .ok (.iaload, 1) := by decide +kernel
theorem dX3_toldIn_18 : decode cX3_toldIn 18 = .ok (.invokestatic 79, 3) := by decide +kernel
theorem dX3_toldIn_21 : decode cX3_toldIn 21 = .ok (.goto 8, 3) := by decide +kernel
theorem dX3_toldIn_24 : decode cX3_toldIn 24 = .ok (.aload_n 0, 1) := by decide +kernel
theorem dX3_toldIn_25 : decode cX3_toldIn 25 = .ok (.iconst 1, 1) := by decide +kernel
theorem dX3_toldIn_26 : decode cX3_toldIn 26 = .ok (.invokevirtual 65, 3) := by decide +kernel
theorem dX3_toldIn_29 : decode cX3_toldIn 29 = .ok (.ireturn, 1) := by decide +kernel
set_option maxRecDepth 20000 in
theorem ggX3_allowed_X3_banned : GoodIn wsX3_allowed wsX3_banned := goodIn_r _ [6, 7, 8, 9, 10, 11, 12, 5, 13, 14, 15, 16, 17, 18, 19, 20, 21, 22, 23, 24, 25, 26, 27] (by decide +kernel) (by decide +kernel)
set_option maxRecDepth 20000 in
theorem gX3_allowed_X3_banned : GoodIn wsX3_allowed (wsV RX3 88 RX3 yX3_banned wsX3_banned) := goodIn_app (goodIn_of _ (by decide +kernel)) ggX3_allowed_X3_banned
theorem dX3_allowed_0 : decode cX3_allowed 0 = .ok (.iconst 0, 1) := by decide +kernel
theorem dX3_allowed_1 : decode cX3_allowed 1 = .ok (.istore_n 2, 1) := by decide +kernel
theorem dX3_allowed_2 : decode cX3_allowed 2 = .ok (.iconst 0, 1) := by decide +kernel
theorem dX3_allowed_3 : decode cX3_allowed 3 = .ok (.istore_n 3, 1) := by decide +kernel
theorem dX3_allowed_4 : decode cX3_allowed 4 = .ok (.iload_n 3, 1) := by decide +kernel
theorem dX3_allowed_5 : decode cX3_allowed 5 = .ok (.aload_n 0, 1) := by decide +kernel
theorem dX3_allowed_6 : decode cX3_allowed 6 = .ok (.getfield 44, 3) := by decide +kernel
theorem dX3_allowed_9 : decode cX3_allowed 9 = .ok (.if_icmp .ge 26, 3) := by decide +kernel
theorem dX3_allowed_12 : decode cX3_allowed 12 = .ok (.iload_n 2, 1) := by decide +kernel
theorem dX3_allowed_13 : decode cX3_allowed 13 = .ok (.aload_n 0, 1) := by decide +kernel
theorem dX3_allowed_14 : decode cX3_allowed 14 = .ok (.iload_n 3, 1) := by decide +kernel
theorem dX3_allowed_15 : decode cX3_allowed 15 = .ok (.iload_n 1, 1) := by decide +kernel
theorem dX3_allowed_16 : decode cX3_allowed 16 = .ok (.invokevirtual 88, 3) := by decide +kernel
theorem dX3_allowed_19 : decode cX3_allowed 19 = .ok (.ifCond .eq 7, 3) := by decide +kernel
theorem dX3_allowed_22 : decode cX3_allowed 22 = .ok (.iconst 0, 1) := by decide +kernel
theorem dX3_allowed_23 : decode cX3_allowed 23 = .ok (.goto 4, 3) := by decide +kernel
theorem dX3_allowed_26 : decode cX3_allowed 26 = .ok (.iconst 1, 1) := by decide +kernel
theorem dX3_allowed_27 : decode cX3_allowed 27 = .ok (.iadd, 1) := by decide +kernel
theorem dX3_allowed_28 : decode cX3_allowed 28 = .ok (.istore_n 2, 1) := by decide +kernel
theorem dX3_allowed_29 : decode cX3_allowed 29 = .ok (.iinc 3 1, 3) := by decide +kernel
theorem dX3_allowed_32 : decode cX3_allowed 32 = .ok (.goto (-28), 3) := by decide +kernel
theorem dX3_allowed_35 : decode cX3_allowed 35 = .ok (.iload_n 2, 1) := by decide +kernel
theorem dX3_allowed_36 : decode cX3_allowed 36 = .ok (.ireturn, 1) := by decide +kernel
set_option maxRecDepth 20000 in
theorem ggX3_allowedIn_X3_isValley : GoodIn wsX3_allowedIn wsX3_isValley := goodIn_r _ [5, 6, 7, 4, 8] (by decide +kernel) (by decide +kernel)
set_option maxRecDepth 20000 in
theorem gX3_allowedIn_X3_isValley : GoodIn wsX3_allowedIn (va_wsS RX3 62 yX3_isValley wsX3_isValley) := goodIn_app (goodIn_of _ (by decide +kernel)) ggX3_allowedIn_X3_isValley
set_option maxRecDepth 20000 in
theorem ggX3_allowedIn_X3_allowed : GoodIn wsX3_allowedIn wsX3_allowed := goodIn_r _ [12, 13, 14, 15, 16, 4, 17, 18, 19, 20, 21, 22, 23, 24, 29, 30, 31, 32, 33, 34, 35, 36, 37, 38, 39, 40, 41, 42] (by decide +kernel) (by decide +kernel)
set_option maxRecDepth 20000 in
theorem gX3_allowedIn_X3_allowed : GoodIn wsX3_allowedIn (wsV RX3 123 RX3 yX3_allowed wsX3_allowed) := goodIn_app (goodIn_of _ (by decide +kernel)) ggX3_allowedIn_X3_allowed
set_option maxRecDepth 20000 in
theorem ggX3_allowedIn_X3_fail : GoodIn wsX3_allowedIn wsX3_fail := goodIn_r _ [28, 1, 29, 30, 31, 32, 33, 34, 35, 36, 37, 38, 39, 40, 41, 42] (by decide +kernel) (by decide +kernel)
set_option maxRecDepth 20000 in
theorem gX3_allowedIn_X3_fail : GoodIn wsX3_allowedIn (wsV RX3 65 RX3 yX3_fail wsX3_fail) := goodIn_app (goodIn_of _ (by decide +kernel)) ggX3_allowedIn_X3_fail
theorem dX3_allowedIn_0 : decode cX3_allowedIn 0 = .ok (.aload_n 0, 1) := by decide +kernel
theorem dX3_allowedIn_1 : decode cX3_allowedIn 1 = .ok (.iconst 0, 1) := by decide +kernel
theorem dX3_allowedIn_2 : decode cX3_allowedIn 2 = .ok (.putfield 40, 3) := by decide +kernel
theorem dX3_allowedIn_5 : decode cX3_allowedIn 5 = .ok (.iload_n 1, 1) := by decide +kernel
theorem dX3_allowedIn_6 : decode cX3_allowedIn 6 = .ok (.invokestatic 62, 3) := by decide +kernel
theorem dX3_allowedIn_9 : decode cX3_allowedIn 9 = .ok (.ifCond .eq 11, 3) := by decide +kernel
theorem dX3_allowedIn_12 : decode cX3_allowedIn 12 = .ok (.aload_n 0, 1) := by decide +kernel
theorem dX3_allowedIn_13 : decode cX3_allowedIn 13 = .ok (.iload_n 1, 1) := by decide +kernel
theorem dX3_allowedIn_14 : decode cX3_allowedIn 14 = .ok (.invokevirtual 123, 3) := by decide +kernel
theorem dX3_allowedIn_17 : decode cX3_allowedIn 17 = .ok (.goto 8, 3) := by decide +kernel
theorem dX3_allowedIn_20 : decode cX3_allowedIn 20 = .ok (.aload_n 0, 1) := by decide +kernel
theorem dX3_allowedIn_21 : decode cX3_allowedIn 21 = .ok (.iconst 1, 1) := by decide +kernel
theorem dX3_allowedIn_22 : decode cX3_allowedIn 22 = .ok (.invokevirtual 65, 3) := by decide +kernel
theorem dX3_allowedIn_25 : decode cX3_allowedIn 25 = .ok (.ireturn, 1) := by decide +kernel
set_option maxRecDepth 20000 in
theorem ggX3_bansIn_X3_many : GoodIn wsX3_bansIn wsX3_many := goodIn_r _ [6] (by decide +kernel) (by decide +kernel)
set_option maxRecDepth 20000 in
theorem gX3_bansIn_X3_many : GoodIn wsX3_bansIn (va_wsS RX3 79 yX3_many wsX3_many) := goodIn_app (goodIn_of _ (by decide +kernel)) ggX3_bansIn_X3_many
theorem dX3_bansIn_0 : decode cX3_bansIn 0 = .ok (.aload_n 0, 1) := by decide +kernel
theorem dX3_bansIn_1 : decode cX3_bansIn 1 = .ok (.getfield 25, 3) := by decide +kernel
theorem dX3_bansIn_4 : decode cX3_bansIn 4 = .ok (.iload_n 1, 1) := by decide +kernel
theorem dX3_bansIn_5 : decode cX3_bansIn 5 = .ok (.iaload, 1) := by decide +kernel
theorem dX3_bansIn_6 : decode cX3_bansIn 6 = .ok (.invokestatic 79, 3) := by decide +kernel
theorem dX3_bansIn_9 : decode cX3_bansIn 9 = .ok (.aload_n 0, 1) := by decide +kernel
theorem dX3_bansIn_10 : decode cX3_bansIn 10 = .ok (.getfield 28, 3) := by decide +kernel
theorem dX3_bansIn_13 : decode cX3_bansIn 13 = .ok (.iload_n 1, 1) := by decide +kernel
theorem dX3_bansIn_14 : decode cX3_bansIn 14 = .ok (.iaload, 1) := by decide +kernel
theorem dX3_bansIn_15 : decode cX3_bansIn 15 = .ok (.invokestatic 79, 3) := by decide +kernel
theorem dX3_bansIn_18 : decode cX3_bansIn 18 = .ok (.iadd, 1) := by decide +kernel
theorem dX3_bansIn_19 : decode cX3_bansIn 19 = .ok (.ireturn, 1) := by decide +kernel
set_option maxRecDepth 20000 in
theorem ggX3_bansOf_X3_isValley : GoodIn wsX3_bansOf wsX3_isValley := goodIn_r _ [5, 6, 7, 4, 8] (by decide +kernel) (by decide +kernel)
set_option maxRecDepth 20000 in
theorem gX3_bansOf_X3_isValley : GoodIn wsX3_bansOf (va_wsS RX3 62 yX3_isValley wsX3_isValley) := goodIn_app (goodIn_of _ (by decide +kernel)) ggX3_bansOf_X3_isValley
set_option maxRecDepth 20000 in
theorem ggX3_bansOf_X3_bansIn : GoodIn wsX3_bansOf wsX3_bansIn := goodIn_r _ [12, 13, 14, 15, 16, 4, 17, 22, 23, 24, 25, 26, 27, 28, 29, 30, 31, 32, 33, 34, 35] (by decide +kernel) (by decide +kernel)
set_option maxRecDepth 20000 in
theorem gX3_bansOf_X3_bansIn : GoodIn wsX3_bansOf (wsV RX3 126 RX3 yX3_bansIn wsX3_bansIn) := goodIn_app (goodIn_of _ (by decide +kernel)) ggX3_bansOf_X3_bansIn
set_option maxRecDepth 20000 in
theorem ggX3_bansOf_X3_fail : GoodIn wsX3_bansOf wsX3_fail := goodIn_r _ [21, 1, 22, 23, 24, 25, 26, 27, 28, 29, 30, 31, 32, 33, 34, 35] (by decide +kernel) (by decide +kernel)
set_option maxRecDepth 20000 in
theorem gX3_bansOf_X3_fail : GoodIn wsX3_bansOf (wsV RX3 65 RX3 yX3_fail wsX3_fail) := goodIn_app (goodIn_of _ (by decide +kernel)) ggX3_bansOf_X3_fail
theorem dX3_bansOf_0 : decode cX3_bansOf 0 = .ok (.aload_n 0, 1) := by decide +kernel
theorem dX3_bansOf_1 : decode cX3_bansOf 1 = .ok (.iconst 0, 1) := by decide +kernel
theorem dX3_bansOf_2 : decode cX3_bansOf 2 = .ok (.putfield 40, 3) := by decide +kernel
theorem dX3_bansOf_5 : decode cX3_bansOf 5 = .ok (.iload_n 1, 1) := by decide +kernel
theorem dX3_bansOf_6 : decode cX3_bansOf 6 = .ok (.invokestatic 62, 3) := by decide +kernel
theorem dX3_bansOf_9 : decode cX3_bansOf 9 = .ok (.ifCond .eq 11, 3) := by decide +kernel
theorem dX3_bansOf_12 : decode cX3_bansOf 12 = .ok (.aload_n 0, 1) := by decide +kernel
theorem dX3_bansOf_13 : decode cX3_bansOf 13 = .ok (.iload_n 1, 1) := by decide +kernel
theorem dX3_bansOf_14 : decode cX3_bansOf 14 = .ok (.invokevirtual 126, 3) := by decide +kernel
theorem dX3_bansOf_17 : decode cX3_bansOf 17 = .ok (.goto 8, 3) := by decide +kernel
theorem dX3_bansOf_20 : decode cX3_bansOf 20 = .ok (.aload_n 0, 1) := by decide +kernel
theorem dX3_bansOf_21 : decode cX3_bansOf 21 = .ok (.iconst 1, 1) := by decide +kernel
theorem dX3_bansOf_22 : decode cX3_bansOf 22 = .ok (.invokevirtual 65, 3) := by decide +kernel
theorem dX3_bansOf_25 : decode cX3_bansOf 25 = .ok (.ireturn, 1) := by decide +kernel
theorem dX3_fables_0 : decode cX3_fables 0 = .ok (.aload_n 0, 1) := by decide +kernel
theorem dX3_fables_1 : decode cX3_fables 1 = .ok (.iconst 0, 1) := by decide +kernel
theorem dX3_fables_2 : decode cX3_fables 2 = .ok (.putfield 40, 3) := by decide +kernel
theorem dX3_fables_5 : decode cX3_fables 5 = .ok (.aload_n 0, 1) := by decide +kernel
theorem dX3_fables_6 : decode cX3_fables 6 = .ok (.getfield 44, 3) := by decide +kernel
theorem dX3_fables_9 : decode cX3_fables 9 = .ok (.ireturn, 1) := by decide +kernel
theorem dX3_season_0 : decode cX3_season 0 = .ok (.aload_n 0, 1) := by decide +kernel
theorem dX3_season_1 : decode cX3_season 1 = .ok (.iconst 0, 1) := by decide +kernel
theorem dX3_season_2 : decode cX3_season 2 = .ok (.putfield 40, 3) := by decide +kernel
theorem dX3_season_5 : decode cX3_season 5 = .ok (.aload_n 0, 1) := by decide +kernel
theorem dX3_season_6 : decode cX3_season 6 = .ok (.getfield 111, 3) := by decide +kernel
theorem dX3_season_9 : decode cX3_season 9 = .ok (.ireturn, 1) := by decide +kernel
set_option maxRecDepth 20000 in
theorem ggX3_tellings_X3_all : GoodIn wsX3_tellings wsX3_all := goodIn_r _ [6, 7, 8, 9, 5, 10, 11, 12, 13, 14, 15, 16, 17, 18, 19, 20, 21, 22, 23, 24] (by decide +kernel) (by decide +kernel)
set_option maxRecDepth 20000 in
theorem gX3_tellings_X3_all : GoodIn wsX3_tellings (wsV RX3 114 RX3 yX3_all wsX3_all) := goodIn_app (goodIn_of _ (by decide +kernel)) ggX3_tellings_X3_all
theorem dX3_tellings_0 : decode cX3_tellings 0 = .ok (.aload_n 0, 1) := by decide +kernel
theorem dX3_tellings_1 : decode cX3_tellings 1 = .ok (.iconst 0, 1) := by decide +kernel
theorem dX3_tellings_2 : decode cX3_tellings 2 = .ok (.putfield 40, 3) := by decide +kernel
theorem dX3_tellings_5 : decode cX3_tellings 5 = .ok (.aload_n 0, 1) := by decide +kernel
theorem dX3_tellings_6 : decode cX3_tellings 6 = .ok (.invokevirtual 114, 3) := by decide +kernel
theorem dX3_tellings_9 : decode cX3_tellings 9 = .ok (.ireturn, 1) := by decide +kernel
theorem dX3_silenced_0 : decode cX3_silenced 0 = .ok (.aload_n 0, 1) := by decide +kernel
theorem dX3_silenced_1 : decode cX3_silenced 1 = .ok (.iconst 0, 1) := by decide +kernel
theorem dX3_silenced_2 : decode cX3_silenced 2 = .ok (.putfield 40, 3) := by decide +kernel
theorem dX3_silenced_5 : decode cX3_silenced 5 = .ok (.aload_n 0, 1) := by decide +kernel
theorem dX3_silenced_6 : decode cX3_silenced 6 = .ok (.getfield 104, 3) := by decide +kernel
theorem dX3_silenced_9 : decode cX3_silenced 9 = .ok (.ireturn, 1) := by decide +kernel
set_option maxRecDepth 20000 in
theorem ggX3_fablesWithMoral_X3_isMoral : GoodIn wsX3_fablesWithMoral wsX3_isMoral := goodIn_r _ [7, 8, 9, 6, 10] (by decide +kernel) (by decide +kernel)
set_option maxRecDepth 20000 in
theorem gX3_fablesWithMoral_X3_isMoral : GoodIn wsX3_fablesWithMoral (va_wsS RX3 55 yX3_isMoral wsX3_isMoral) := goodIn_app (goodIn_of _ (by decide +kernel)) ggX3_fablesWithMoral_X3_isMoral
set_option maxRecDepth 20000 in
theorem ggX3_fablesWithMoral_X3_fail : GoodIn wsX3_fablesWithMoral wsX3_fail := goodIn_r _ [14, 1, 15, 16, 17, 18, 19, 20, 21, 22, 23, 24, 25, 26, 27, 28] (by decide +kernel) (by decide +kernel)
set_option maxRecDepth 20000 in
theorem gX3_fablesWithMoral_X3_fail : GoodIn wsX3_fablesWithMoral (wsV RX3 65 RX3 yX3_fail wsX3_fail) := goodIn_app (goodIn_of _ (by decide +kernel)) ggX3_fablesWithMoral_X3_fail
theorem dX3_fablesWithMoral_0 : decode cX3_fablesWithMoral 0 = .ok (.aload_n 0, 1) := by decide +kernel
theorem dX3_fablesWithMoral_1 : decode cX3_fablesWithMoral 1 = .ok (.iconst 0, 1) := by decide +kernel
theorem dX3_fablesWithMoral_2 : decode cX3_fablesWithMoral 2 = .ok (.putfield 40, 3) := by decide +kernel
theorem dX3_fablesWithMoral_5 : decode cX3_fablesWithMoral 5 = .ok (.iload_n 1, 1) := by decide +kernel
theorem dX3_fablesWithMoral_6 : decode cX3_fablesWithMoral 6 = .ok (.invokestatic 55, 3) := by decide +kernel
theorem dX3_fablesWithMoral_9 : decode cX3_fablesWithMoral 9 = .ok (.ifCond .ne 9, 3) := by decide +kernel
theorem dX3_fablesWithMoral_12 : decode cX3_fablesWithMoral 12 = .ok (.aload_n 0, 1) := by decide +kernel
theorem dX3_fablesWithMoral_13 : decode cX3_fablesWithMoral 13 = .ok (.iconst 1, 1) := by decide +kernel
theorem dX3_fablesWithMoral_14 : decode cX3_fablesWithMoral 14 = .ok (.invokevirtual 65, 3) := by decide +kernel
theorem dX3_fablesWithMoral_17 : decode cX3_fablesWithMoral 17 = .ok (.ireturn, 1) := by decide +kernel
theorem dX3_fablesWithMoral_18 : decode cX3_fablesWithMoral 18 = .ok (.iconst 0, 1) := by decide +kernel
theorem dX3_fablesWithMoral_19 : decode cX3_fablesWithMoral 19 = .ok (.istore_n 2, 1) := by decide +kernel
theorem dX3_fablesWithMoral_20 : decode cX3_fablesWithMoral 20 = .ok (.iconst 0, 1) := by decide +kernel
theorem dX3_fablesWithMoral_21 : decode cX3_fablesWithMoral 21 = .ok (.istore_n 3, 1) := by decide +kernel
theorem dX3_fablesWithMoral_22 : decode cX3_fablesWithMoral 22 = .ok (.iload_n 3, 1) := by decide +kernel
theorem dX3_fablesWithMoral_23 : decode cX3_fablesWithMoral 23 = .ok (.aload_n 0, 1) := by decide +kernel
theorem dX3_fablesWithMoral_24 : decode cX3_fablesWithMoral 24 = .ok (.getfield 44, 3) := by decide +kernel
theorem dX3_fablesWithMoral_27 : decode cX3_fablesWithMoral 27 = .ok (.if_icmp .ge 27, 3) := by decide +kernel
theorem dX3_fablesWithMoral_30 : decode cX3_fablesWithMoral 30 = .ok (.iload_n 2, 1) := by decide +kernel
theorem dX3_fablesWithMoral_31 : decode cX3_fablesWithMoral 31 = .ok (.aload_n 0, 1) := by decide +kernel
theorem dX3_fablesWithMoral_32 : decode cX3_fablesWithMoral 32 = .ok (.getfield 9, 3) := by decide +kernel
theorem dX3_fablesWithMoral_35 : decode cX3_fablesWithMoral 35 = .ok (.iload_n 3, 1) := by decide +kernel
theorem dX3_fablesWithMoral_36 : decode cX3_fablesWithMoral 36 = .ok (.iaload, 1) := by decide +kernel
theorem dX3_fablesWithMoral_37 : decode cX3_fablesWithMoral 37 = .ok (.iload_n 1, 1) := by decide +kernel
theorem dX3_fablesWithMoral_38 : decode cX3_fablesWithMoral 38 = .ok (.if_icmp .ne 7, 3) := by decide +kernel
theorem dX3_fablesWithMoral_41 : decode cX3_fablesWithMoral 41 = .ok (.iconst 1, 1) := by decide +kernel
theorem dX3_fablesWithMoral_42 : decode cX3_fablesWithMoral 42 = .ok (.goto 4, 3) := by decide +kernel
theorem dX3_fablesWithMoral_45 : decode cX3_fablesWithMoral 45 = .ok (.iconst 0, 1) := by decide +kernel
theorem dX3_fablesWithMoral_46 : decode cX3_fablesWithMoral 46 = .ok (.iadd, 1) := by decide +kernel
theorem dX3_fablesWithMoral_47 : decode cX3_fablesWithMoral 47 = .ok (.istore_n 2, 1) := by decide +kernel
theorem dX3_fablesWithMoral_48 : decode cX3_fablesWithMoral 48 = .ok (.iinc 3 1, 3) := by decide +kernel
theorem dX3_fablesWithMoral_51 : decode cX3_fablesWithMoral 51 = .ok (.goto (-29), 3) := by decide +kernel
theorem dX3_fablesWithMoral_54 : decode cX3_fablesWithMoral 54 = .ok (.iload_n 2, 1) := by decide +kernel
theorem dX3_fablesWithMoral_55 : decode cX3_fablesWithMoral 55 = .ok (.ireturn, 1) := by decide +kernel
set_option maxRecDepth 20000 in
theorem ggX3_fablesWithBeast_X3_isBeast : GoodIn wsX3_fablesWithBeast wsX3_isBeast := goodIn_r _ [7, 8, 9, 6, 10] (by decide +kernel) (by decide +kernel)
set_option maxRecDepth 20000 in
theorem gX3_fablesWithBeast_X3_isBeast : GoodIn wsX3_fablesWithBeast (va_wsS RX3 59 yX3_isBeast wsX3_isBeast) := goodIn_app (goodIn_of _ (by decide +kernel)) ggX3_fablesWithBeast_X3_isBeast
set_option maxRecDepth 20000 in
theorem ggX3_fablesWithBeast_X3_fail : GoodIn wsX3_fablesWithBeast wsX3_fail := goodIn_r _ [14, 1, 18, 19, 20, 21, 22, 23, 24, 25, 26, 27, 28, 29, 30, 31] (by decide +kernel) (by decide +kernel)
set_option maxRecDepth 20000 in
theorem gX3_fablesWithBeast_X3_fail : GoodIn wsX3_fablesWithBeast (wsV RX3 65 RX3 yX3_fail wsX3_fail) := goodIn_app (goodIn_of _ (by decide +kernel)) ggX3_fablesWithBeast_X3_fail
set_option maxRecDepth 20000 in
theorem ggX3_fablesWithBeast_X3_has : GoodIn wsX3_fablesWithBeast wsX3_has := goodIn_r _ [17] (by decide +kernel) (by decide +kernel)
set_option maxRecDepth 20000 in
theorem gX3_fablesWithBeast_X3_has : GoodIn wsX3_fablesWithBeast (va_wsS RX3 51 yX3_has wsX3_has) := goodIn_app (goodIn_of _ (by decide +kernel)) ggX3_fablesWithBeast_X3_has
theorem dX3_fablesWithBeast_0 : decode cX3_fablesWithBeast 0 = .ok (.aload_n 0, 1) := by decide +kernel
theorem dX3_fablesWithBeast_1 : decode cX3_fablesWithBeast 1 = .ok (.iconst 0, 1) := by decide +kernel
theorem dX3_fablesWithBeast_2 : decode cX3_fablesWithBeast 2 = .ok (.putfield 40, 3) := by decide +kernel
theorem dX3_fablesWithBeast_5 : decode cX3_fablesWithBeast 5 = .ok (.iload_n 1, 1) := by decide +kernel
theorem dX3_fablesWithBeast_6 : decode cX3_fablesWithBeast 6 = .ok (.invokestatic 59, 3) := by decide +kernel
theorem dX3_fablesWithBeast_9 : decode cX3_fablesWithBeast 9 = .ok (.ifCond .ne 9, 3) := by decide +kernel
theorem dX3_fablesWithBeast_12 : decode cX3_fablesWithBeast 12 = .ok (.aload_n 0, 1) := by decide +kernel
theorem dX3_fablesWithBeast_13 : decode cX3_fablesWithBeast 13 = .ok (.iconst 1, 1) := by decide +kernel
theorem dX3_fablesWithBeast_14 : decode cX3_fablesWithBeast 14 = .ok (.invokevirtual 65, 3) := by decide +kernel
theorem dX3_fablesWithBeast_17 : decode cX3_fablesWithBeast 17 = .ok (.ireturn, 1) := by decide +kernel
theorem dX3_fablesWithBeast_18 : decode cX3_fablesWithBeast 18 = .ok (.iconst 0, 1) := by decide +kernel
theorem dX3_fablesWithBeast_19 : decode cX3_fablesWithBeast 19 = .ok (.istore_n 2, 1) := by decide +kernel
theorem dX3_fablesWithBeast_20 : decode cX3_fablesWithBeast 20 = .ok (.iconst 0, 1) := by decide +kernel
theorem dX3_fablesWithBeast_21 : decode cX3_fablesWithBeast 21 = .ok (.istore_n 3, 1) := by decide +kernel
theorem dX3_fablesWithBeast_22 : decode cX3_fablesWithBeast 22 = .ok (.iload_n 3, 1) := by decide +kernel
theorem dX3_fablesWithBeast_23 : decode cX3_fablesWithBeast 23 = .ok (.aload_n 0, 1) := by decide +kernel
theorem dX3_fablesWithBeast_24 : decode cX3_fablesWithBeast 24 = .ok (.getfield 44, 3) := by decide +kernel
theorem dX3_fablesWithBeast_27 : decode cX3_fablesWithBeast 27 = .ok (.if_icmp .ge 30, 3) := by decide +kernel
theorem dX3_fablesWithBeast_30 : decode cX3_fablesWithBeast 30 = .ok (.iload_n 2, 1) := by decide +kernel
theorem dX3_fablesWithBeast_31 : decode cX3_fablesWithBeast 31 = .ok (.aload_n 0, 1) := by decide +kernel
theorem dX3_fablesWithBeast_32 : decode cX3_fablesWithBeast 32 = .ok (.getfield 13, 3) := by decide +kernel
theorem dX3_fablesWithBeast_35 : decode cX3_fablesWithBeast 35 = .ok (.iload_n 3, 1) := by decide +kernel
theorem dX3_fablesWithBeast_36 : decode cX3_fablesWithBeast 36 = .ok (.iaload, 1) := by decide +kernel
theorem dX3_fablesWithBeast_37 : decode cX3_fablesWithBeast 37 = .ok (.iload_n 1, 1) := by decide +kernel
theorem dX3_fablesWithBeast_38 : decode cX3_fablesWithBeast 38 = .ok (.invokestatic 51, 3) := by decide +kernel
theorem dX3_fablesWithBeast_41 : decode cX3_fablesWithBeast 41 = .ok (.ifCond .eq 7, 3) := by decide +kernel
theorem dX3_fablesWithBeast_44 : decode cX3_fablesWithBeast 44 = .ok (.iconst 1, 1) := by decide +kernel
theorem dX3_fablesWithBeast_45 : decode cX3_fablesWithBeast 45 = .ok (.goto 4, 3) := by decide +kernel
theorem dX3_fablesWithBeast_48 : decode cX3_fablesWithBeast 48 = .ok (.iconst 0, 1) := by decide +kernel
theorem dX3_fablesWithBeast_49 : decode cX3_fablesWithBeast 49 = .ok (.iadd, 1) := by decide +kernel
theorem dX3_fablesWithBeast_50 : decode cX3_fablesWithBeast 50 = .ok (.istore_n 2, 1) := by decide +kernel
theorem dX3_fablesWithBeast_51 : decode cX3_fablesWithBeast 51 = .ok (.iinc 3 1, 3) := by decide +kernel
theorem dX3_fablesWithBeast_54 : decode cX3_fablesWithBeast 54 = .ok (.goto (-32), 3) := by decide +kernel
theorem dX3_fablesWithBeast_57 : decode cX3_fablesWithBeast 57 = .ok (.iload_n 2, 1) := by decide +kernel
theorem dX3_fablesWithBeast_58 : decode cX3_fablesWithBeast 58 = .ok (.ireturn, 1) := by decide +kernel
set_option maxRecDepth 20000 in
theorem ggX3_favourite_X3_has : GoodIn wsX3_favourite wsX3_has := goodIn_r _ [7] (by decide +kernel) (by decide +kernel)
set_option maxRecDepth 20000 in
theorem gX3_favourite_X3_has : GoodIn wsX3_favourite (va_wsS RX3 51 yX3_has wsX3_has) := goodIn_app (goodIn_of _ (by decide +kernel)) ggX3_favourite_X3_has
set_option maxRecDepth 20000 in
theorem ggX3_favourite_X3_placesOf : GoodIn wsX3_favourite wsX3_placesOf := goodIn_r _ [11, 12, 4, 5, 6, 7, 13, 14, 15, 16, 17, 18, 19, 20, 21, 22, 23, 24, 25, 26] (by decide +kernel) (by decide +kernel)
set_option maxRecDepth 20000 in
theorem gX3_favourite_X3_placesOf : GoodIn wsX3_favourite (wsV RX3 91 RX3 yX3_placesOf wsX3_placesOf) := goodIn_app (goodIn_of _ (by decide +kernel)) ggX3_favourite_X3_placesOf
theorem dX3_favourite_0 : decode cX3_favourite 0 = .ok (.iconst (-1), 1) := by decide +kernel
theorem dX3_favourite_1 : decode cX3_favourite 1 = .ok (.istore_n 2, 1) := by decide +kernel
theorem dX3_favourite_2 : decode cX3_favourite 2 = .ok (.iconst 0, 1) := by decide +kernel
theorem dX3_favourite_3 : decode cX3_favourite 3 = .ok (.istore_n 3, 1) := by decide +kernel
theorem dX3_favourite_4 : decode cX3_favourite 4 = .ok (.iconst 0, 1) := by decide +kernel
theorem dX3_favourite_5 : decode cX3_favourite 5 = .ok (.istore 4, 2) := by decide +kernel
theorem dX3_favourite_7 : decode cX3_favourite 7 = .ok (.iload 4, 2) := by decide +kernel
theorem dX3_favourite_9 : decode cX3_favourite 9 = .ok (.iload_n 1, 1) := by decide +kernel
theorem dX3_favourite_10 : decode cX3_favourite 10 = .ok (.ifCond .eq 8, 3) := by decide +kernel
theorem dX3_favourite_13 : decode cX3_favourite 13 = .ok (.bipush 10, 2) := by decide +kernel
theorem dX3_favourite_15 : decode cX3_favourite 15 = .ok (.goto 5, 3) := by decide +kernel
theorem dX3_favourite_18 : decode cX3_favourite 18 = .ok (.bipush 12, 2) := by decide +kernel
theorem dX3_favourite_20 : decode cX3_favourite 20 = .ok (.if_icmp .ge 90, 3) := by decide +kernel
theorem dX3_favourite_23 : decode cX3_favourite 23 = .ok (.iconst 0, 1) := by decide +kernel
theorem dX3_favourite_24 : decode cX3_favourite 24 = .ok (.istore 5, 2) := by decide +kernel
theorem dX3_favourite_26 : decode cX3_favourite 26 = .ok (.iconst 0, 1) := by decide +kernel
theorem dX3_favourite_27 : decode cX3_favourite 27 = .ok (.istore 6, 2) := by decide +kernel
theorem dX3_favourite_29 : decode cX3_favourite 29 = .ok (.iload 6, 2) := by decide +kernel
theorem dX3_favourite_31 : decode cX3_favourite 31 = .ok (.aload_n 0, 1) := by decide +kernel
theorem dX3_favourite_32 : decode cX3_favourite 32 = .ok (.getfield 44, 3) := by decide +kernel
theorem dX3_favourite_35 : decode cX3_favourite 35 = .ok (.if_icmp .ge 54, 3) := by decide +kernel
theorem dX3_favourite_38 : decode cX3_favourite 38 = .ok (.iload_n 1, 1) := by decide +kernel
theorem dX3_favourite_39 : decode cX3_favourite 39 = .ok (.ifCond .eq 18, 3) := by decide +kernel
theorem dX3_favourite_42 : decode cX3_favourite 42 = .ok (.aload_n 0, 1) := by decide +kernel
theorem dX3_favourite_43 : decode cX3_favourite 43 = .ok (.getfield 9, 3) := by decide +kernel
theorem dX3_favourite_46 : decode cX3_favourite 46 = .ok (.iload 6, 2) := by decide +kernel
theorem dX3_favourite_48 : decode cX3_favourite 48 = .ok (.iaload, 1) := by decide +kernel
theorem dX3_favourite_49 : decode cX3_favourite 49 = .ok (.iload 4, 2) := by decide +kernel
theorem dX3_favourite_51 : decode cX3_favourite 51 = .ok (.if_icmp .ne 32, 3) := by decide +kernel
theorem dX3_favourite_54 : decode cX3_favourite 54 = .ok (.goto 18, 3) := by decide +kernel
theorem dX3_favourite_57 : decode cX3_favourite 57 = .ok (.aload_n 0, 1) := by decide +kernel
theorem dX3_favourite_58 : decode cX3_favourite 58 = .ok (.getfield 13, 3) := by decide +kernel
theorem dX3_favourite_61 : decode cX3_favourite 61 = .ok (.iload 6, 2) := by decide +kernel
theorem dX3_favourite_63 : decode cX3_favourite 63 = .ok (.iaload, 1) := by decide +kernel
theorem dX3_favourite_64 : decode cX3_favourite 64 = .ok (.iload 4, 2) := by decide +kernel
theorem dX3_favourite_66 : decode cX3_favourite 66 = .ok (.invokestatic 51, 3) := by decide +kernel
theorem dX3_favourite_69 : decode cX3_favourite 69 = .ok (.ifCond .eq 14, 3) := by decide +kernel
theorem dX3_favourite_72 : decode cX3_favourite 72 = .ok (.iload 5, 2) := by decide +kernel
theorem dX3_favourite_74 : decode cX3_favourite 74 = .ok (.aload_n 0, 1) := by decide +kernel
theorem dX3_favourite_75 : decode cX3_favourite 75 = .ok (.iload 6, 2) := by decide +kernel
theorem dX3_favourite_77 : decode cX3_favourite 77 = .ok (.invokevirtual 91, 3) := by decide +kernel
theorem dX3_favourite_80 : decode cX3_favourite 80 = .ok (.iadd, 1) := by decide +kernel
theorem dX3_favourite_81 : decode cX3_favourite 81 = .ok (.istore 5, 2) := by decide +kernel
theorem dX3_favourite_83 : decode cX3_favourite 83 = .ok (.iinc 6 1, 3) := by decide +kernel
theorem dX3_favourite_86 : decode cX3_favourite 86 = .ok (.goto (-57), 3) := by decide +kernel
theorem dX3_favourite_89 : decode cX3_favourite 89 = .ok (.iload 5, 2) := by decide +kernel
theorem dX3_favourite_91 : decode cX3_favourite 91 = .ok (.iload_n 3, 1) := by decide +kernel
theorem dX3_favourite_92 : decode cX3_favourite 92 = .ok (.if_icmp .gt 6, 3) := by decide +kernel
theorem dX3_favourite_95 : decode cX3_favourite 95 = .ok (.goto 9, 3) := by decide +kernel
theorem dX3_favourite_98 : decode cX3_favourite 98 = .ok (.iload 4, 2) := by decide +kernel
theorem dX3_favourite_100 : decode cX3_favourite 100 = .ok (.istore_n 2, 1) := by decide +kernel
theorem dX3_favourite_101 : decode cX3_favourite 101 = .ok (.iload 5, 2) := by decide +kernel
theorem dX3_favourite_103 : decode cX3_favourite 103 = .ok (.istore_n 3, 1) := by decide +kernel
theorem dX3_favourite_104 : decode cX3_favourite 104 = .ok (.iinc 4 1, 3) := by decide +kernel
theorem dX3_favourite_107 : decode cX3_favourite 107 = .ok (.goto (-100), 3) := by decide +kernel
theorem dX3_favourite_110 : decode cX3_favourite 110 = .ok (.iload_n 2, 1) := by decide +kernel
theorem dX3_favourite_111 : decode cX3_favourite 111 = .ok (.ireturn, 1) := by decide +kernel
set_option maxRecDepth 20000 in
theorem ggX3_favouriteMoral_X3_favourite : GoodIn wsX3_favouriteMoral wsX3_favourite := goodIn_r _ [6, 7, 8, 9, 10, 11, 5, 12, 13, 14, 15, 16, 17, 18, 19, 20, 21, 22, 23, 24, 25, 26, 27, 28, 29, 30, 31] (by decide +kernel) (by decide +kernel)
set_option maxRecDepth 20000 in
theorem gX3_favouriteMoral_X3_favourite : GoodIn wsX3_favouriteMoral (wsV RX3 129 RX3 yX3_favourite wsX3_favourite) := goodIn_app (goodIn_of _ (by decide +kernel)) ggX3_favouriteMoral_X3_favourite
theorem dX3_favouriteMoral_0 : decode cX3_favouriteMoral 0 = .ok (.aload_n 0, 1) := by decide +kernel
theorem dX3_favouriteMoral_1 : decode cX3_favouriteMoral 1 = .ok (.iconst 0, 1) := by decide +kernel
theorem dX3_favouriteMoral_2 : decode cX3_favouriteMoral 2 = .ok (.putfield 40, 3) := by decide +kernel
theorem dX3_favouriteMoral_5 : decode cX3_favouriteMoral 5 = .ok (.aload_n 0, 1) := by decide +kernel
theorem dX3_favouriteMoral_6 : decode cX3_favouriteMoral 6 = .ok (.iconst 1, 1) := by decide +kernel
theorem dX3_favouriteMoral_7 : decode cX3_favouriteMoral 7 = .ok (.invokevirtual 129, 3) := by decide +kernel
theorem dX3_favouriteMoral_10 : decode cX3_favouriteMoral 10 = .ok (.ireturn, 1) := by decide +kernel
set_option maxRecDepth 20000 in
theorem ggX3_favouriteBeast_X3_favourite : GoodIn wsX3_favouriteBeast wsX3_favourite := goodIn_r _ [6, 7, 8, 9, 10, 11, 5, 12, 13, 14, 15, 16, 17, 18, 19, 20, 21, 22, 23, 24, 25, 26, 27, 28, 29, 30, 31] (by decide +kernel) (by decide +kernel)
set_option maxRecDepth 20000 in
theorem gX3_favouriteBeast_X3_favourite : GoodIn wsX3_favouriteBeast (wsV RX3 129 RX3 yX3_favourite wsX3_favourite) := goodIn_app (goodIn_of _ (by decide +kernel)) ggX3_favouriteBeast_X3_favourite
theorem dX3_favouriteBeast_0 : decode cX3_favouriteBeast 0 = .ok (.aload_n 0, 1) := by decide +kernel
theorem dX3_favouriteBeast_1 : decode cX3_favouriteBeast 1 = .ok (.iconst 0, 1) := by decide +kernel
theorem dX3_favouriteBeast_2 : decode cX3_favouriteBeast 2 = .ok (.putfield 40, 3) := by decide +kernel
theorem dX3_favouriteBeast_5 : decode cX3_favouriteBeast 5 = .ok (.aload_n 0, 1) := by decide +kernel
theorem dX3_favouriteBeast_6 : decode cX3_favouriteBeast 6 = .ok (.iconst 0, 1) := by decide +kernel
theorem dX3_favouriteBeast_7 : decode cX3_favouriteBeast 7 = .ok (.invokevirtual 129, 3) := by decide +kernel
theorem dX3_favouriteBeast_10 : decode cX3_favouriteBeast 10 = .ok (.ireturn, 1) := by decide +kernel
theorem dX3_keep_0 : decode cX3_keep 0 = .ok (.aload_n 0, 1) := by decide +kernel
theorem dX3_keep_1 : decode cX3_keep 1 = .ok (.getfield 22, 3) := by decide +kernel
theorem dX3_keep_4 : decode cX3_keep 4 = .ok (.iconst 0, 1) := by decide +kernel
theorem dX3_keep_5 : decode cX3_keep 5 = .ok (.aload_n 0, 1) := by decide +kernel
theorem dX3_keep_6 : decode cX3_keep 6 = .ok (.getfield 37, 3) := by decide +kernel
theorem dX3_keep_9 : decode cX3_keep 9 = .ok (.iconst 0, 1) := by decide +kernel
theorem dX3_keep_10 : decode cX3_keep 10 = .ok (.bipush 6, 2) := by decide +kernel
theorem dX3_keep_12 : decode cX3_keep 12 = .ok (.invokestatic 98, 3) := by decide +kernel
theorem dX3_keep_15 : decode cX3_keep 15 = .ok (.return_, 1) := by decide +kernel
theorem dX3_bringBack_0 : decode cX3_bringBack 0 = .ok (.aload_n 0, 1) := by decide +kernel
theorem dX3_bringBack_1 : decode cX3_bringBack 1 = .ok (.getfield 37, 3) := by decide +kernel
theorem dX3_bringBack_4 : decode cX3_bringBack 4 = .ok (.iconst 0, 1) := by decide +kernel
theorem dX3_bringBack_5 : decode cX3_bringBack 5 = .ok (.aload_n 0, 1) := by decide +kernel
theorem dX3_bringBack_6 : decode cX3_bringBack 6 = .ok (.getfield 22, 3) := by decide +kernel
theorem dX3_bringBack_9 : decode cX3_bringBack 9 = .ok (.iconst 0, 1) := by decide +kernel
theorem dX3_bringBack_10 : decode cX3_bringBack 10 = .ok (.bipush 6, 2) := by decide +kernel
theorem dX3_bringBack_12 : decode cX3_bringBack 12 = .ok (.invokestatic 98, 3) := by decide +kernel
theorem dX3_bringBack_15 : decode cX3_bringBack 15 = .ok (.return_, 1) := by decide +kernel
set_option maxRecDepth 20000 in
theorem ggX3_seasonsUntil_X3_isPlace : GoodIn wsX3_seasonsUntil wsX3_isPlace := goodIn_r _ [7, 8, 9, 10, 6, 11, 12, 13, 14, 15, 16, 17, 18, 58, 59, 60, 61, 62, 63, 64, 65, 66, 67, 68, 69, 70, 71] (by decide +kernel) (by decide +kernel)
set_option maxRecDepth 20000 in
theorem gX3_seasonsUntil_X3_isPlace : GoodIn wsX3_seasonsUntil (wsV RX3 85 RX3 yX3_isPlace wsX3_isPlace) := goodIn_app (goodIn_of _ (by decide +kernel)) ggX3_seasonsUntil_X3_isPlace
set_option maxRecDepth 20000 in
theorem ggX3_seasonsUntil_X3_fail : GoodIn wsX3_seasonsUntil wsX3_fail := goodIn_r _ [22, 1, 58, 59, 60, 61, 62, 63, 64, 65, 66, 67, 68, 69, 70, 71] (by decide +kernel) (by decide +kernel)
set_option maxRecDepth 20000 in
theorem gX3_seasonsUntil_X3_fail : GoodIn wsX3_seasonsUntil (wsV RX3 65 RX3 yX3_fail wsX3_fail) := goodIn_app (goodIn_of _ (by decide +kernel)) ggX3_seasonsUntil_X3_fail
set_option maxRecDepth 20000 in
theorem ggX3_seasonsUntil_X3_keep : GoodIn wsX3_seasonsUntil wsX3_keep := goodIn_r _ [26, 2, 27, 28, 29, 30, 31, 58, 59, 60, 61, 62, 63, 64, 65, 66, 67, 68, 69, 70, 71] (by decide +kernel) (by decide +kernel)
set_option maxRecDepth 20000 in
theorem gX3_seasonsUntil_X3_keep : GoodIn wsX3_seasonsUntil (wsV RX3 133 RX3 yX3_keep wsX3_keep) := goodIn_app (goodIn_of _ (by decide +kernel)) ggX3_seasonsUntil_X3_keep
set_option maxRecDepth 20000 in
theorem ggX3_seasonsUntil_X3_has : GoodIn wsX3_seasonsUntil wsX3_has := goodIn_r _ [34] (by decide +kernel) (by decide +kernel)
set_option maxRecDepth 20000 in
theorem gX3_seasonsUntil_X3_has : GoodIn wsX3_seasonsUntil (va_wsS RX3 51 yX3_has wsX3_has) := goodIn_app (goodIn_of _ (by decide +kernel)) ggX3_seasonsUntil_X3_has
set_option maxRecDepth 20000 in
theorem ggX3_seasonsUntil_X3_seasonOn : GoodIn wsX3_seasonsUntil wsX3_seasonOn := goodIn_r _ [38, 12, 2, 39, 40, 28, 29, 30, 31, 32, 33, 6, 34, 41, 42, 43, 44, 45, 46, 47, 48, 49, 50, 51, 52, 53, 58, 59, 60, 61, 62, 63, 64, 65, 66, 67, 68, 69, 70, 71] (by decide +kernel) (by decide +kernel)
set_option maxRecDepth 20000 in
theorem gX3_seasonsUntil_X3_seasonOn : GoodIn wsX3_seasonsUntil (wsV RX3 107 RX3 yX3_seasonOn wsX3_seasonOn) := goodIn_app (goodIn_of _ (by decide +kernel)) ggX3_seasonsUntil_X3_seasonOn
set_option maxRecDepth 20000 in
theorem ggX3_seasonsUntil_X3_bringBack : GoodIn wsX3_seasonsUntil wsX3_bringBack := goodIn_r _ [57, 27, 2, 28, 29, 30, 31, 58, 59, 60, 61, 62, 63, 64, 65, 66, 67, 68, 69, 70, 71] (by decide +kernel) (by decide +kernel)
set_option maxRecDepth 20000 in
theorem gX3_seasonsUntil_X3_bringBack : GoodIn wsX3_seasonsUntil (wsV RX3 136 RX3 yX3_bringBack wsX3_bringBack) := goodIn_app (goodIn_of _ (by decide +kernel)) ggX3_seasonsUntil_X3_bringBack
theorem dX3_seasonsUntil_0 : decode cX3_seasonsUntil 0 = .ok (.aload_n 0, 1) := by decide +kernel
theorem dX3_seasonsUntil_1 : decode cX3_seasonsUntil 1 = .ok (.iconst 0, 1) := by decide +kernel
theorem dX3_seasonsUntil_2 : decode cX3_seasonsUntil 2 = .ok (.putfield 40, 3) := by decide +kernel
theorem dX3_seasonsUntil_5 : decode cX3_seasonsUntil 5 = .ok (.aload_n 0, 1) := by decide +kernel
theorem dX3_seasonsUntil_6 : decode cX3_seasonsUntil 6 = .ok (.iload_n 1, 1) := by decide +kernel
theorem dX3_seasonsUntil_7 : decode cX3_seasonsUntil 7 = .ok (.iload_n 2, 1) := by decide +kernel
theorem dX3_seasonsUntil_8 : decode cX3_seasonsUntil 8 = .ok (.invokevirtual 85, 3) := by decide +kernel
theorem dX3_seasonsUntil_11 : decode cX3_seasonsUntil 11 = .ok (.ifCond .ne 9, 3) := by decide +kernel
theorem dX3_seasonsUntil_14 : decode cX3_seasonsUntil 14 = .ok (.aload_n 0, 1) := by decide +kernel
theorem dX3_seasonsUntil_15 : decode cX3_seasonsUntil 15 = .ok (.iconst 1, 1) := by decide +kernel
theorem dX3_seasonsUntil_16 : decode cX3_seasonsUntil 16 = .ok (.invokevirtual 65, 3) := by decide +kernel
theorem dX3_seasonsUntil_19 : decode cX3_seasonsUntil 19 = .ok (.ireturn, 1) := by decide +kernel
theorem dX3_seasonsUntil_20 : decode cX3_seasonsUntil 20 = .ok (.aload_n 0, 1) := by decide +kernel
theorem dX3_seasonsUntil_21 : decode cX3_seasonsUntil 21 = .ok (.invokevirtual 133, 3) := by decide +kernel
theorem dX3_seasonsUntil_24 : decode cX3_seasonsUntil 24 = .ok (.iconst 0, 1) := by decide +kernel
theorem dX3_seasonsUntil_25 : decode cX3_seasonsUntil 25 = .ok (.istore_n 3, 1) := by decide +kernel
theorem dX3_seasonsUntil_26 : decode cX3_seasonsUntil 26 = .ok (.iload_n 3, 1) := by decide +kernel
theorem dX3_seasonsUntil_27 : decode cX3_seasonsUntil 27 = .ok (.bipush 40, 2) := by decide +kernel
theorem dX3_seasonsUntil_29 : decode cX3_seasonsUntil 29 = .ok (.if_icmp .gt 27, 3) := by decide +kernel
theorem dX3_seasonsUntil_32 : decode cX3_seasonsUntil 32 = .ok (.aload_n 0, 1) := by decide +kernel
theorem dX3_seasonsUntil_33 : decode cX3_seasonsUntil 33 = .ok (.getfield 22, 3) := by decide +kernel
theorem dX3_seasonsUntil_36 : decode cX3_seasonsUntil 36 = .ok (.iload_n 2, 1) := by decide +kernel
theorem dX3_seasonsUntil_37 : decode cX3_seasonsUntil 37 = .ok (.iaload, 1) := by decide +kernel
theorem dX3_seasonsUntil_38 : decode cX3_seasonsUntil 38 = .ok (.iload_n 1, 1) := by decide +kernel
theorem dX3_seasonsUntil_39 : decode cX3_seasonsUntil 39 = .ok (.invokestatic 51, 3) := by decide +kernel
theorem dX3_seasonsUntil_42 : decode cX3_seasonsUntil 42 = .ok (.ifCond .ne 14, 3) := by decide +kernel
theorem dX3_seasonsUntil_45 : decode cX3_seasonsUntil 45 = .ok (.aload_n 0, 1) := by decide +kernel
theorem dX3_seasonsUntil_46 : decode cX3_seasonsUntil 46 = .ok (.invokevirtual 107, 3) := by decide +kernel
theorem dX3_seasonsUntil_49 : decode cX3_seasonsUntil 49 = .ok (.pop, 1) := by decide +kernel
theorem dX3_seasonsUntil_50 : decode cX3_seasonsUntil 50 = .ok (.iinc 3 1, 3) := by decide +kernel
theorem dX3_seasonsUntil_53 : decode cX3_seasonsUntil 53 = .ok (.goto (-27), 3) := by decide +kernel
theorem dX3_seasonsUntil_56 : decode cX3_seasonsUntil 56 = .ok (.aload_n 0, 1) := by decide +kernel
theorem dX3_seasonsUntil_57 : decode cX3_seasonsUntil 57 = .ok (.invokevirtual 136, 3) := by decide +kernel
theorem dX3_seasonsUntil_60 : decode cX3_seasonsUntil 60 = .ok (.iload_n 3, 1) := by decide +kernel
theorem dX3_seasonsUntil_61 : decode cX3_seasonsUntil 61 = .ok (.bipush 40, 2) := by decide +kernel
theorem dX3_seasonsUntil_63 : decode cX3_seasonsUntil 63 = .ok (.if_icmp .le 7, 3) := by decide +kernel
theorem dX3_seasonsUntil_66 : decode cX3_seasonsUntil 66 = .ok (.iconst (-1), 1) := by decide +kernel
theorem dX3_seasonsUntil_67 : decode cX3_seasonsUntil 67 = .ok (.goto 4, 3) := by decide +kernel
theorem dX3_seasonsUntil_70 : decode cX3_seasonsUntil 70 = .ok (.iload_n 3, 1) := by decide +kernel
theorem dX3_seasonsUntil_71 : decode cX3_seasonsUntil 71 = .ok (.ireturn, 1) := by decide +kernel
set_option maxRecDepth 20000 in
theorem ggX3_after_X3_keep : GoodIn wsX3_after wsX3_keep := goodIn_r _ [5, 6, 7, 8, 9, 10, 11, 46, 47, 48, 49, 50, 51, 52, 53, 54, 55, 56, 57, 58, 59] (by decide +kernel) (by decide +kernel)
set_option maxRecDepth 20000 in
theorem gX3_after_X3_keep : GoodIn wsX3_after (wsV RX3 133 RX3 yX3_keep wsX3_keep) := goodIn_app (goodIn_of _ (by decide +kernel)) ggX3_after_X3_keep
set_option maxRecDepth 20000 in
theorem ggX3_after_X3_seasonOn : GoodIn wsX3_after wsX3_seasonOn := goodIn_r _ [15, 16, 6, 17, 18, 8, 9, 10, 11, 19, 20, 4, 21, 22, 23, 24, 25, 26, 27, 28, 29, 30, 31, 32, 33, 34, 46, 47, 48, 49, 50, 51, 52, 53, 54, 55, 56, 57, 58, 59] (by decide +kernel) (by decide +kernel)
set_option maxRecDepth 20000 in
theorem gX3_after_X3_seasonOn : GoodIn wsX3_after (wsV RX3 107 RX3 yX3_seasonOn wsX3_seasonOn) := goodIn_app (goodIn_of _ (by decide +kernel)) ggX3_after_X3_seasonOn
set_option maxRecDepth 20000 in
theorem ggX3_after_X3_all : GoodIn wsX3_after wsX3_all := goodIn_r _ [38, 6, 39, 40, 4, 41, 46, 47, 48, 49, 50, 51, 52, 53, 54, 55, 56, 57, 58, 59] (by decide +kernel) (by decide +kernel)
set_option maxRecDepth 20000 in
theorem gX3_after_X3_all : GoodIn wsX3_after (wsV RX3 114 RX3 yX3_all wsX3_all) := goodIn_app (goodIn_of _ (by decide +kernel)) ggX3_after_X3_all
set_option maxRecDepth 20000 in
theorem ggX3_after_X3_bringBack : GoodIn wsX3_after wsX3_bringBack := goodIn_r _ [45, 7, 6, 8, 9, 10, 11, 46, 47, 48, 49, 50, 51, 52, 53, 54, 55, 56, 57, 58, 59] (by decide +kernel) (by decide +kernel)
set_option maxRecDepth 20000 in
theorem gX3_after_X3_bringBack : GoodIn wsX3_after (wsV RX3 136 RX3 yX3_bringBack wsX3_bringBack) := goodIn_app (goodIn_of _ (by decide +kernel)) ggX3_after_X3_bringBack
theorem dX3_after_0 : decode cX3_after 0 = .ok (.aload_n 0, 1) := by decide +kernel
theorem dX3_after_1 : decode cX3_after 1 = .ok (.invokevirtual 133, 3) := by decide +kernel
theorem dX3_after_4 : decode cX3_after 4 = .ok (.iconst 0, 1) := by decide +kernel
theorem dX3_after_5 : decode cX3_after 5 = .ok (.istore_n 2, 1) := by decide +kernel
theorem dX3_after_6 : decode cX3_after 6 = .ok (.iload_n 2, 1) := by decide +kernel
theorem dX3_after_7 : decode cX3_after 7 = .ok (.iload_n 1, 1) := by decide +kernel
theorem dX3_after_8 : decode cX3_after 8 = .ok (.if_icmp .ge 14, 3) := by decide +kernel
theorem dX3_after_11 : decode cX3_after 11 = .ok (.aload_n 0, 1) := by decide +kernel
theorem dX3_after_12 : decode cX3_after 12 = .ok (.invokevirtual 107, 3) := by decide +kernel
theorem dX3_after_15 : decode cX3_after 15 = .ok (.pop, 1) := by decide +kernel
theorem dX3_after_16 : decode cX3_after 16 = .ok (.iinc 2 1, 3) := by decide +kernel
theorem dX3_after_19 : decode cX3_after 19 = .ok (.goto (-13), 3) := by decide +kernel
theorem dX3_after_22 : decode cX3_after 22 = .ok (.aload_n 0, 1) := by decide +kernel
theorem dX3_after_23 : decode cX3_after 23 = .ok (.invokevirtual 114, 3) := by decide +kernel
theorem dX3_after_26 : decode cX3_after 26 = .ok (.istore_n 2, 1) := by decide +kernel
theorem dX3_after_27 : decode cX3_after 27 = .ok (.aload_n 0, 1) := by decide +kernel
theorem dX3_after_28 : decode cX3_after 28 = .ok (.invokevirtual 136, 3) := by decide +kernel
theorem dX3_after_31 : decode cX3_after 31 = .ok (.iload_n 2, 1) := by decide +kernel
theorem dX3_after_32 : decode cX3_after 32 = .ok (.ireturn, 1) := by decide +kernel
set_option maxRecDepth 20000 in
theorem ggX3_tellingsAfter_X3_isIn : GoodIn wsX3_tellingsAfter wsX3_isIn := goodIn_r _ [5] (by decide +kernel) (by decide +kernel)
set_option maxRecDepth 20000 in
theorem gX3_tellingsAfter_X3_isIn : GoodIn wsX3_tellingsAfter (va_wsS RX3 47 yX3_isIn wsX3_isIn) := goodIn_app (goodIn_of _ (by decide +kernel)) ggX3_tellingsAfter_X3_isIn
set_option maxRecDepth 20000 in
theorem ggX3_tellingsAfter_X3_after : GoodIn wsX3_tellingsAfter wsX3_after := goodIn_r _ [9, 10, 11, 12, 4, 13, 14, 15, 16, 17, 18, 19, 20, 21, 22, 23, 24, 25, 26, 27, 28, 29, 30, 31, 32, 33, 34, 35, 36, 37, 38, 39, 40, 41, 42, 43, 44, 45, 46, 47, 48, 49, 50, 51, 52, 53, 58, 59, 60, 61, 62, 63, 64, 65, 66, 67, 68, 69, 70, 71] (by decide +kernel) (by decide +kernel)
set_option maxRecDepth 20000 in
theorem gX3_tellingsAfter_X3_after : GoodIn wsX3_tellingsAfter (wsV RX3 139 RX3 yX3_after wsX3_after) := goodIn_app (goodIn_of _ (by decide +kernel)) ggX3_tellingsAfter_X3_after
set_option maxRecDepth 20000 in
theorem ggX3_tellingsAfter_X3_fail : GoodIn wsX3_tellingsAfter wsX3_fail := goodIn_r _ [57, 1, 58, 59, 60, 61, 62, 63, 64, 65, 66, 67, 68, 69, 70, 71] (by decide +kernel) (by decide +kernel)
set_option maxRecDepth 20000 in
theorem gX3_tellingsAfter_X3_fail : GoodIn wsX3_tellingsAfter (wsV RX3 65 RX3 yX3_fail wsX3_fail) := goodIn_app (goodIn_of _ (by decide +kernel)) ggX3_tellingsAfter_X3_fail
theorem dX3_tellingsAfter_0 : decode cX3_tellingsAfter 0 = .ok (.aload_n 0, 1) := by decide +kernel
theorem dX3_tellingsAfter_1 : decode cX3_tellingsAfter 1 = .ok (.iconst 0, 1) := by decide +kernel
theorem dX3_tellingsAfter_2 : decode cX3_tellingsAfter 2 = .ok (.putfield 40, 3) := by decide +kernel
theorem dX3_tellingsAfter_5 : decode cX3_tellingsAfter 5 = .ok (.iload_n 1, 1) := by decide +kernel
theorem dX3_tellingsAfter_6 : decode cX3_tellingsAfter 6 = .ok (.iconst 1, 1) := by decide +kernel
theorem dX3_tellingsAfter_7 : decode cX3_tellingsAfter 7 = .ok (.bipush 40, 2) := by decide +kernel
theorem dX3_tellingsAfter_9 : decode cX3_tellingsAfter 9 = .ok (.invokestatic 47, 3) := by decide +kernel
theorem dX3_tellingsAfter_12 : decode cX3_tellingsAfter 12 = .ok (.ifCond .eq 11, 3) := by decide +kernel
theorem dX3_tellingsAfter_15 : decode cX3_tellingsAfter 15 = .ok (.aload_n 0, 1) := by decide +kernel
theorem dX3_tellingsAfter_16 : decode cX3_tellingsAfter 16 = .ok (.iload_n 1, 1) := by decide +kernel
theorem dX3_tellingsAfter_17 : decode cX3_tellingsAfter 17 = .ok (.invokevirtual 139, 3) := by decide +kernel
theorem dX3_tellingsAfter_20 : decode cX3_tellingsAfter 20 = .ok (.goto 8, 3) := by decide +kernel
theorem dX3_tellingsAfter_23 : decode cX3_tellingsAfter 23 = .ok (.aload_n 0, 1) := by decide +kernel
theorem dX3_tellingsAfter_24 : decode cX3_tellingsAfter 24 = .ok (.iconst 1, 1) := by decide +kernel
theorem dX3_tellingsAfter_25 : decode cX3_tellingsAfter 25 = .ok (.invokevirtual 65, 3) := by decide +kernel
theorem dX3_tellingsAfter_28 : decode cX3_tellingsAfter 28 = .ok (.ireturn, 1) := by decide +kernel
set_option maxRecDepth 20000 in
theorem ggX3_bestPass_X3_isIn : GoodIn wsX3_bestPass wsX3_isIn := goodIn_r _ [6] (by decide +kernel) (by decide +kernel)
set_option maxRecDepth 20000 in
theorem gX3_bestPass_X3_isIn : GoodIn wsX3_bestPass (va_wsS RX3 47 yX3_isIn wsX3_isIn) := goodIn_app (goodIn_of _ (by decide +kernel)) ggX3_bestPass_X3_isIn
set_option maxRecDepth 20000 in
theorem ggX3_bestPass_X3_fail : GoodIn wsX3_bestPass wsX3_fail := goodIn_r _ [10, 1, 58, 59, 60, 61, 62, 63, 64, 65, 66, 67, 68, 69, 70, 71] (by decide +kernel) (by decide +kernel)
set_option maxRecDepth 20000 in
theorem gX3_bestPass_X3_fail : GoodIn wsX3_bestPass (wsV RX3 65 RX3 yX3_fail wsX3_fail) := goodIn_app (goodIn_of _ (by decide +kernel)) ggX3_bestPass_X3_fail
set_option maxRecDepth 20000 in
theorem ggX3_bestPass_X3_after : GoodIn wsX3_bestPass wsX3_after := goodIn_r _ [14, 15, 16, 17, 5, 18, 19, 20, 21, 22, 23, 24, 25, 26, 27, 28, 29, 30, 2, 31, 32, 33, 34, 35, 36, 37, 38, 39, 40, 41, 42, 43, 44, 45, 46, 47, 48, 49, 50, 51, 52, 53, 54, 55, 56, 57, 58, 59, 60, 61, 62, 63, 64, 65, 66, 67, 68, 69, 70, 71] (by decide +kernel) (by decide +kernel)
set_option maxRecDepth 20000 in
theorem gX3_bestPass_X3_after : GoodIn wsX3_bestPass (wsV RX3 139 RX3 yX3_after wsX3_after) := goodIn_app (goodIn_of _ (by decide +kernel)) ggX3_bestPass_X3_after
set_option maxRecDepth 20000 in
theorem ggX3_bestPass_X3_has : GoodIn wsX3_bestPass wsX3_has := goodIn_r _ [33] (by decide +kernel) (by decide +kernel)
set_option maxRecDepth 20000 in
theorem gX3_bestPass_X3_has : GoodIn wsX3_bestPass (va_wsS RX3 51 yX3_has wsX3_has) := goodIn_app (goodIn_of _ (by decide +kernel)) ggX3_bestPass_X3_has
theorem dX3_bestPass_0 : decode cX3_bestPass 0 = .ok (.aload_n 0, 1) := by decide +kernel
theorem dX3_bestPass_1 : decode cX3_bestPass 1 = .ok (.iconst 0, 1) := by decide +kernel
theorem dX3_bestPass_2 : decode cX3_bestPass 2 = .ok (.putfield 40, 3) := by decide +kernel
theorem dX3_bestPass_5 : decode cX3_bestPass 5 = .ok (.iload_n 1, 1) := by decide +kernel
theorem dX3_bestPass_6 : decode cX3_bestPass 6 = .ok (.iconst 1, 1) := by decide +kernel
theorem dX3_bestPass_7 : decode cX3_bestPass 7 = .ok (.bipush 20, 2) := by decide +kernel
theorem dX3_bestPass_9 : decode cX3_bestPass 9 = .ok (.invokestatic 47, 3) := by decide +kernel
theorem dX3_bestPass_12 : decode cX3_bestPass 12 = .ok (.ifCond .ne 9, 3) := by decide +kernel
theorem dX3_bestPass_15 : decode cX3_bestPass 15 = .ok (.aload_n 0, 1) := by decide +kernel
theorem dX3_bestPass_16 : decode cX3_bestPass 16 = .ok (.iconst 1, 1) := by decide +kernel
theorem dX3_bestPass_17 : decode cX3_bestPass 17 = .ok (.invokevirtual 65, 3) := by decide +kernel
theorem dX3_bestPass_20 : decode cX3_bestPass 20 = .ok (.ireturn, 1) := by decide +kernel
theorem dX3_bestPass_21 : decode cX3_bestPass 21 = .ok (.iconst (-1), 1) := by decide +kernel
theorem dX3_bestPass_22 : decode cX3_bestPass 22 = .ok (.istore_n 2, 1) := by decide +kernel
theorem dX3_bestPass_23 : decode cX3_bestPass 23 = .ok (.aload_n 0, 1) := by decide +kernel
theorem dX3_bestPass_24 : decode cX3_bestPass 24 = .ok (.iload_n 1, 1) := by decide +kernel
theorem dX3_bestPass_25 : decode cX3_bestPass 25 = .ok (.invokevirtual 139, 3) := by decide +kernel
theorem dX3_bestPass_28 : decode cX3_bestPass 28 = .ok (.istore_n 3, 1) := by decide +kernel
theorem dX3_bestPass_29 : decode cX3_bestPass 29 = .ok (.iconst 0, 1) := by decide +kernel
theorem dX3_bestPass_30 : decode cX3_bestPass 30 = .ok (.istore 4, 2) := by decide +kernel
theorem dX3_bestPass_32 : decode cX3_bestPass 32 = .ok (.iload 4, 2) := by decide +kernel
theorem dX3_bestPass_34 : decode cX3_bestPass 34 = .ok (.bipush 6, 2) := by decide +kernel
theorem dX3_bestPass_36 : decode cX3_bestPass 36 = .ok (.if_icmp .ge 134, 3) := by decide +kernel
theorem dX3_bestPass_39 : decode cX3_bestPass 39 = .ok (.iload 4, 2) := by decide +kernel
theorem dX3_bestPass_41 : decode cX3_bestPass 41 = .ok (.iconst 1, 1) := by decide +kernel
theorem dX3_bestPass_42 : decode cX3_bestPass 42 = .ok (.iadd, 1) := by decide +kernel
theorem dX3_bestPass_43 : decode cX3_bestPass 43 = .ok (.istore 5, 2) := by decide +kernel
theorem dX3_bestPass_45 : decode cX3_bestPass 45 = .ok (.iload 5, 2) := by decide +kernel
theorem dX3_bestPass_47 : decode cX3_bestPass 47 = .ok (.bipush 6, 2) := by decide +kernel
theorem dX3_bestPass_49 : decode cX3_bestPass 49 = .ok (.if_icmp .ge 115, 3) := by decide +kernel
theorem dX3_bestPass_52 : decode cX3_bestPass 52 = .ok (.aload_n 0, 1) := by decide +kernel
theorem dX3_bestPass_53 : decode cX3_bestPass 53 = .ok (.getfield 31, 3) := by decide +kernel
theorem dX3_bestPass_56 : decode cX3_bestPass 56 = .ok (.iload 4, 2) := by decide +kernel
theorem dX3_bestPass_58 : decode cX3_bestPass 58 = .ok (.iaload, 1) := by decide +kernel
theorem dX3_bestPass_59 : decode cX3_bestPass 59 = .ok (.iload 5, 2) := by decide +kernel
theorem dX3_bestPass_61 : decode cX3_bestPass 61 = .ok (.invokestatic 51, 3) := by decide +kernel
theorem dX3_bestPass_64 : decode cX3_bestPass 64 = .ok (.ifCond .eq 6, 3) := by decide +kernel
theorem dX3_bestPass_67 : decode cX3_bestPass 67 = .ok (.goto 91, 3) := by decide +kernel
theorem dX3_bestPass_70 : decode cX3_bestPass 70 = .ok (.aload_n 0, 1) := by decide +kernel
theorem dX3_bestPass_71 : decode cX3_bestPass 71 = .ok (.getfield 31, 3) := by decide +kernel
theorem dX3_bestPass_74 : decode cX3_bestPass 74 = .ok (.iload 4, 2) := by decide +kernel
theorem dX3_bestPass_76 : decode cX3_bestPass 76 = .ok (.dup2, 1) := by decide +kernel
theorem dX3_bestPass_77 : decode cX3_bestPass 77 = .ok (.iaload, 1) := by decide +kernel
theorem dX3_bestPass_78 : decode cX3_bestPass 78 = .ok (.iconst 1, 1) := by decide +kernel
theorem dX3_bestPass_79 : decode cX3_bestPass 79 = .ok (.iload 5, 2) := by decide +kernel
theorem dX3_bestPass_81 : decode cX3_bestPass 81 = .ok (.ishl, 1) := by decide +kernel
theorem dX3_bestPass_82 : decode cX3_bestPass 82 = .ok (.ior, 1) := by decide +kernel
theorem dX3_bestPass_83 : decode cX3_bestPass 83 = .ok (.iastore, 1) := by decide +kernel
theorem dX3_bestPass_84 : decode cX3_bestPass 84 = .ok (.aload_n 0, 1) := by decide +kernel
theorem dX3_bestPass_85 : decode cX3_bestPass 85 = .ok (.getfield 31, 3) := by decide +kernel
theorem dX3_bestPass_88 : decode cX3_bestPass 88 = .ok (.iload 5, 2) := by decide +kernel
theorem dX3_bestPass_90 : decode cX3_bestPass 90 = .ok (.dup2, 1) := by decide +kernel
theorem dX3_bestPass_91 : decode cX3_bestPass 91 = .ok (.iaload, 1) := by decide +kernel
theorem dX3_bestPass_92 : decode cX3_bestPass 92 = .ok (.iconst 1, 1) := by decide +kernel
theorem dX3_bestPass_93 : decode cX3_bestPass 93 = .ok (.iload 4, 2) := by decide +kernel
theorem dX3_bestPass_95 : decode cX3_bestPass 95 = .ok (.ishl, 1) := by decide +kernel
theorem dX3_bestPass_96 : decode cX3_bestPass 96 = .ok (.ior, 1) := by decide +kernel
theorem dX3_bestPass_97 : decode cX3_bestPass 97 = .ok (.iastore, 1) := by decide +kernel
theorem dX3_bestPass_98 : decode cX3_bestPass 98 = .ok (.aload_n 0, 1) := by decide +kernel
theorem dX3_bestPass_99 : decode cX3_bestPass 99 = .ok (.iload_n 1, 1) := by decide +kernel
theorem dX3_bestPass_100 : decode cX3_bestPass 100 = .ok (.invokevirtual 139, 3) := by decide +kernel
theorem dX3_bestPass_103 : decode cX3_bestPass 103 = .ok (.istore 6, 2) := by decide +kernel
theorem dX3_bestPass_105 : decode cX3_bestPass 105 = .ok (.aload_n 0, 1) := by decide +kernel
theorem dX3_bestPass_106 : decode cX3_bestPass 106 = .ok (.getfield 31, 3) := by decide +kernel
theorem dX3_bestPass_109 : decode cX3_bestPass 109 = .ok (.iload 4, 2) := by decide +kernel
theorem dX3_bestPass_111 : decode cX3_bestPass 111 = .ok (.dup2, 1) := by decide +kernel
theorem dX3_bestPass_112 : decode cX3_bestPass 112 = .ok (.iaload, 1) := by decide +kernel
theorem dX3_bestPass_113 : decode cX3_bestPass 113 = .ok (.iconst 1, 1) := by decide +kernel
theorem dX3_bestPass_114 : decode cX3_bestPass 114 = .ok (.iload 5, 2) := by decide +kernel
theorem dX3_bestPass_116 : decode cX3_bestPass 116 = .ok (.ishl, 1) := by decide +kernel
theorem dX3_bestPass_117 : decode cX3_bestPass 117 = .ok (.iconst (-1), 1) := by decide +kernel
theorem dX3_bestPass_118 : decode cX3_bestPass 118 = .ok (.ixor, 1) := by decide +kernel
theorem dX3_bestPass_119 : decode cX3_bestPass 119 = .ok (.iand, 1) := by decide +kernel
theorem dX3_bestPass_120 : decode cX3_bestPass 120 = .ok (.iastore, 1) := by decide +kernel
theorem dX3_bestPass_121 : decode cX3_bestPass 121 = .ok (.aload_n 0, 1) := by decide +kernel
theorem dX3_bestPass_122 : decode cX3_bestPass 122 = .ok (.getfield 31, 3) := by decide +kernel
theorem dX3_bestPass_125 : decode cX3_bestPass 125 = .ok (.iload 5, 2) := by decide +kernel
theorem dX3_bestPass_127 : decode cX3_bestPass 127 = .ok (.dup2, 1) := by decide +kernel
theorem dX3_bestPass_128 : decode cX3_bestPass 128 = .ok (.iaload, 1) := by decide +kernel
theorem dX3_bestPass_129 : decode cX3_bestPass 129 = .ok (.iconst 1, 1) := by decide +kernel
theorem dX3_bestPass_130 : decode cX3_bestPass 130 = .ok (.iload 4, 2) := by decide +kernel
theorem dX3_bestPass_132 : decode cX3_bestPass 132 = .ok (.ishl, 1) := by decide +kernel
theorem dX3_bestPass_133 : decode cX3_bestPass 133 = .ok (.iconst (-1), 1) := by decide +kernel
theorem dX3_bestPass_134 : decode cX3_bestPass 134 = .ok (.ixor, 1) := by decide +kernel
theorem dX3_bestPass_135 : decode cX3_bestPass 135 = .ok (.iand, 1) := by decide +kernel
theorem dX3_bestPass_136 : decode cX3_bestPass 136 = .ok (.iastore, 1) := by decide +kernel
theorem dX3_bestPass_137 : decode cX3_bestPass 137 = .ok (.iload 6, 2) := by decide +kernel
theorem dX3_bestPass_139 : decode cX3_bestPass 139 = .ok (.iload_n 3, 1) := by decide +kernel
theorem dX3_bestPass_140 : decode cX3_bestPass 140 = .ok (.if_icmp .gt 6, 3) := by decide +kernel
theorem dX3_bestPass_143 : decode cX3_bestPass 143 = .ok (.goto 15, 3) := by decide +kernel
theorem dX3_bestPass_146 : decode cX3_bestPass 146 = .ok (.bipush 6, 2) := by decide +kernel
theorem dX3_bestPass_148 : decode cX3_bestPass 148 = .ok (.iload 4, 2) := by decide +kernel
theorem dX3_bestPass_150 : decode cX3_bestPass 150 = .ok (.imul, 1) := by decide +kernel
theorem dX3_bestPass_151 : decode cX3_bestPass 151 = .ok (.iload 5, 2) := by decide +kernel
theorem dX3_bestPass_153 : decode cX3_bestPass 153 = .ok (.iadd, 1) := by decide +kernel
theorem dX3_bestPass_154 : decode cX3_bestPass 154 = .ok (.istore_n 2, 1) := by decide +kernel
theorem dX3_bestPass_155 : decode cX3_bestPass 155 = .ok (.iload 6, 2) := by decide +kernel
theorem dX3_bestPass_157 : decode cX3_bestPass 157 = .ok (.istore_n 3, 1) := by decide +kernel
theorem dX3_bestPass_158 : decode cX3_bestPass 158 = .ok (.iinc 5 1, 3) := by decide +kernel
theorem dX3_bestPass_161 : decode cX3_bestPass 161 = .ok (.goto (-116), 3) := by decide +kernel
theorem dX3_bestPass_164 : decode cX3_bestPass 164 = .ok (.iinc 4 1, 3) := by decide +kernel
theorem dX3_bestPass_167 : decode cX3_bestPass 167 = .ok (.goto (-135), 3) := by decide +kernel
theorem dX3_bestPass_170 : decode cX3_bestPass 170 = .ok (.iload_n 2, 1) := by decide +kernel
theorem dX3_bestPass_171 : decode cX3_bestPass 171 = .ok (.ireturn, 1) := by decide +kernel
set_option maxRecDepth 20000 in
theorem ggX3_meanBeasts_X3_many : GoodIn wsX3_meanBeasts wsX3_many := goodIn_r _ [7] (by decide +kernel) (by decide +kernel)
set_option maxRecDepth 20000 in
theorem gX3_meanBeasts_X3_many : GoodIn wsX3_meanBeasts (va_wsS RX3 79 yX3_many wsX3_many) := goodIn_app (goodIn_of _ (by decide +kernel)) ggX3_meanBeasts_X3_many
theorem dX3_meanBeasts_0 : decode cX3_meanBeasts 0 = .ok (.aload_n 0, 1) := by decide +kernel
theorem dX3_meanBeasts_1 : decode cX3_meanBeasts 1 = .ok (.iconst 0, 1) := by decide +kernel
theorem dX3_meanBeasts_2 : decode cX3_meanBeasts 2 = .ok (.putfield 40, 3) := by decide +kernel
theorem dX3_meanBeasts_5 : decode cX3_meanBeasts 5 = .ok (.iconst 0, 1) := by decide +kernel
theorem dX3_meanBeasts_6 : decode cX3_meanBeasts 6 = .ok (.istore_n 1, 1) := by decide +kernel
theorem dX3_meanBeasts_7 : decode cX3_meanBeasts 7 = .ok (.iconst 0, 1) := by decide +kernel
theorem dX3_meanBeasts_8 : decode cX3_meanBeasts 8 = .ok (.istore_n 2, 1) := by decide +kernel
theorem dX3_meanBeasts_9 : decode cX3_meanBeasts 9 = .ok (.iload_n 2, 1) := by decide +kernel
theorem dX3_meanBeasts_10 : decode cX3_meanBeasts 10 = .ok (.aload_n 0, 1) := by decide +kernel
theorem dX3_meanBeasts_11 : decode cX3_meanBeasts 11 = .ok (.getfield 44, 3) := by decide +kernel
theorem dX3_meanBeasts_14 : decode cX3_meanBeasts 14 = .ok (.if_icmp .ge 21, 3) := by decide +kernel
theorem dX3_meanBeasts_17 : decode cX3_meanBeasts 17 = .ok (.iload_n 1, 1) := by decide +kernel
theorem dX3_meanBeasts_18 : decode cX3_meanBeasts 18 = .ok (.aload_n 0, 1) := by decide +kernel
theorem dX3_meanBeasts_19 : decode cX3_meanBeasts 19 = .ok (.getfield 13, 3) := by decide +kernel
theorem dX3_meanBeasts_22 : decode cX3_meanBeasts 22 = .ok (.iload_n 2, 1) := by decide +kernel
theorem dX3_meanBeasts_23 : decode cX3_meanBeasts 23 = .ok (.iaload, 1) := by decide +kernel
theorem dX3_meanBeasts_24 : decode cX3_meanBeasts 24 = .ok (.invokestatic 79, 3) := by decide +kernel
theorem dX3_meanBeasts_27 : decode cX3_meanBeasts 27 = .ok (.iadd, 1) := by decide +kernel
theorem dX3_meanBeasts_28 : decode cX3_meanBeasts 28 = .ok (.istore_n 1, 1) := by decide +kernel
theorem dX3_meanBeasts_29 : decode cX3_meanBeasts 29 = .ok (.iinc 2 1, 3) := by decide +kernel
theorem dX3_meanBeasts_32 : decode cX3_meanBeasts 32 = .ok (.goto (-23), 3) := by decide +kernel
theorem dX3_meanBeasts_35 : decode cX3_meanBeasts 35 = .ok (.aload_n 0, 1) := by decide +kernel
theorem dX3_meanBeasts_36 : decode cX3_meanBeasts 36 = .ok (.getfield 44, 3) := by decide +kernel
theorem dX3_meanBeasts_39 : decode cX3_meanBeasts 39 = .ok (.ifCond .ne 7, 3) := by decide +kernel
theorem dX3_meanBeasts_42 : decode cX3_meanBeasts 42 = .ok (.dconst 0, 1) := by decide +kernel
theorem dX3_meanBeasts_43 : decode cX3_meanBeasts 43 = .ok (.goto 11, 3) := by decide +kernel
theorem dX3_meanBeasts_46 : decode cX3_meanBeasts 46 = .ok (.iload_n 1, 1) := by decide +kernel
theorem dX3_meanBeasts_47 : decode cX3_meanBeasts 47 = .ok (.i2d, 1) := by decide +kernel
theorem dX3_meanBeasts_48 : decode cX3_meanBeasts 48 = .ok (.aload_n 0, 1) := by decide +kernel
theorem dX3_meanBeasts_49 : decode cX3_meanBeasts 49 = .ok (.getfield 44, 3) := by decide +kernel
theorem dX3_meanBeasts_52 : decode cX3_meanBeasts 52 = .ok (.i2d, 1) := by decide +kernel
theorem dX3_meanBeasts_53 : decode cX3_meanBeasts 53 = .ok (.ddiv, 1) := by decide +kernel
theorem dX3_meanBeasts_54 : decode cX3_meanBeasts 54 = .ok (.dreturn, 1) := by decide +kernel
theorem dX3_one_0 : decode cX3_one 0 = .ok (.iload_n 0, 1) := by decide +kernel
theorem dX3_one_1 : decode cX3_one 1 = .ok (.ifCond .eq 7, 3) := by decide +kernel
theorem dX3_one_4 : decode cX3_one 4 = .ok (.iconst 1, 1) := by decide +kernel
theorem dX3_one_5 : decode cX3_one 5 = .ok (.goto 4, 3) := by decide +kernel
theorem dX3_one_8 : decode cX3_one 8 = .ok (.iconst 0, 1) := by decide +kernel
theorem dX3_one_9 : decode cX3_one 9 = .ok (.ireturn, 1) := by decide +kernel
set_option maxRecDepth 20000 in
theorem ggX3_digest_X3_all : GoodIn wsX3_digest wsX3_all := goodIn_r _ [18, 12, 19, 20, 17, 21, 54, 55, 56, 57, 58, 59, 60, 61, 62, 63, 64, 65, 66, 67] (by decide +kernel) (by decide +kernel)
set_option maxRecDepth 20000 in
theorem gX3_digest_X3_all : GoodIn wsX3_digest (wsV RX3 114 RX3 yX3_all wsX3_all) := goodIn_app (goodIn_of _ (by decide +kernel)) ggX3_digest_X3_all
set_option maxRecDepth 20000 in
theorem ggX3_digest_X3_favourite : GoodIn wsX3_digest wsX3_favourite := goodIn_r _ [25, 3, 8, 9, 26, 27, 17, 28, 29, 30, 31, 32, 12, 54, 55, 56, 57, 58, 59, 60, 61, 62, 63, 64, 65, 66, 67] (by decide +kernel) (by decide +kernel)
set_option maxRecDepth 20000 in
theorem gX3_digest_X3_favourite : GoodIn wsX3_digest (wsV RX3 129 RX3 yX3_favourite wsX3_favourite) := goodIn_app (goodIn_of _ (by decide +kernel)) ggX3_digest_X3_favourite
set_option maxRecDepth 20000 in
theorem ggX3_digest_X3_many : GoodIn wsX3_digest wsX3_many := goodIn_r _ [21] (by decide +kernel) (by decide +kernel)
set_option maxRecDepth 20000 in
theorem gX3_digest_X3_many : GoodIn wsX3_digest (va_wsS RX3 79 yX3_many wsX3_many) := goodIn_app (goodIn_of _ (by decide +kernel)) ggX3_digest_X3_many
set_option maxRecDepth 20000 in
theorem ggX3_digest_X3_children : GoodIn wsX3_digest wsX3_children := goodIn_r _ [36, 3, 11, 54, 55, 56, 57, 58, 59, 60, 61, 62, 63, 64, 65, 66, 67] (by decide +kernel) (by decide +kernel)
set_option maxRecDepth 20000 in
theorem gX3_digest_X3_children : GoodIn wsX3_digest (wsV RX3 76 RX3 yX3_children wsX3_children) := goodIn_app (goodIn_of _ (by decide +kernel)) ggX3_digest_X3_children
set_option maxRecDepth 20000 in
theorem ggX3_digest_X3_placesOf : GoodIn wsX3_digest wsX3_placesOf := goodIn_r _ [32, 12, 26, 27, 17, 28, 54, 55, 56, 57, 58, 59, 60, 61, 62, 63, 64, 65, 66, 67] (by decide +kernel) (by decide +kernel)
set_option maxRecDepth 20000 in
theorem gX3_digest_X3_placesOf : GoodIn wsX3_digest (wsV RX3 91 RX3 yX3_placesOf wsX3_placesOf) := goodIn_app (goodIn_of _ (by decide +kernel)) ggX3_digest_X3_placesOf
set_option maxRecDepth 20000 in
theorem ggX3_digest_X3_has : GoodIn wsX3_digest wsX3_has := goodIn_r _ [28] (by decide +kernel) (by decide +kernel)
set_option maxRecDepth 20000 in
theorem gX3_digest_X3_has : GoodIn wsX3_digest (va_wsS RX3 51 yX3_has wsX3_has) := goodIn_app (goodIn_of _ (by decide +kernel)) ggX3_digest_X3_has
set_option maxRecDepth 20000 in
theorem ggX3_digest_X3_one : GoodIn wsX3_digest wsX3_one := goodIn_r _ [39] (by decide +kernel) (by decide +kernel)
set_option maxRecDepth 20000 in
theorem gX3_digest_X3_one : GoodIn wsX3_digest (va_wsS RX3 146 yX3_one wsX3_one) := goodIn_app (goodIn_of _ (by decide +kernel)) ggX3_digest_X3_one
set_option maxRecDepth 20000 in
theorem ggX3_digest_X3_banned : GoodIn wsX3_digest wsX3_banned := goodIn_r _ [43, 44, 8, 45, 9, 26, 27, 17, 28, 54, 55, 56, 57, 58, 59, 60, 61, 62, 63, 64, 65, 66, 67] (by decide +kernel) (by decide +kernel)
set_option maxRecDepth 20000 in
theorem gX3_digest_X3_banned : GoodIn wsX3_digest (wsV RX3 88 RX3 yX3_banned wsX3_banned) := goodIn_app (goodIn_of _ (by decide +kernel)) ggX3_digest_X3_banned
set_option maxRecDepth 20000 in
theorem ggX3_digest_X3_allowed : GoodIn wsX3_digest wsX3_allowed := goodIn_r _ [49, 3, 40, 41, 42, 17, 43, 44, 8, 45, 9, 26, 27, 28, 54, 55, 56, 57, 58, 59, 60, 61, 62, 63, 64, 65, 66, 67] (by decide +kernel) (by decide +kernel)
set_option maxRecDepth 20000 in
theorem gX3_digest_X3_allowed : GoodIn wsX3_digest (wsV RX3 123 RX3 yX3_allowed wsX3_allowed) := goodIn_app (goodIn_of _ (by decide +kernel)) ggX3_digest_X3_allowed
set_option maxRecDepth 20000 in
theorem ggX3_digest_X3_bansIn : GoodIn wsX3_digest wsX3_bansIn := goodIn_r _ [53, 44, 45, 19, 20, 17, 21, 54, 55, 56, 57, 58, 59, 60, 61, 62, 63, 64, 65, 66, 67] (by decide +kernel) (by decide +kernel)
set_option maxRecDepth 20000 in
theorem gX3_digest_X3_bansIn : GoodIn wsX3_digest (wsV RX3 126 RX3 yX3_bansIn wsX3_bansIn) := goodIn_app (goodIn_of _ (by decide +kernel)) ggX3_digest_X3_bansIn
theorem dX3_digest_0 : decode cX3_digest 0 = .ok (.aload_n 0, 1) := by decide +kernel
theorem dX3_digest_1 : decode cX3_digest 1 = .ok (.iconst 0, 1) := by decide +kernel
theorem dX3_digest_2 : decode cX3_digest 2 = .ok (.putfield 40, 3) := by decide +kernel
theorem dX3_digest_5 : decode cX3_digest 5 = .ok (.bipush 6, 2) := by decide +kernel
theorem dX3_digest_7 : decode cX3_digest 7 = .ok (.newarray .int, 2) := by decide +kernel
theorem dX3_digest_9 : decode cX3_digest 9 = .ok (.dup, 1) := by decide +kernel
theorem dX3_digest_10 : decode cX3_digest 10 = .ok (.iconst 0, 1) := by decide +kernel
theorem dX3_digest_11 : decode cX3_digest 11 = .ok (.aload_n 0, 1) := by decide +kernel
theorem dX3_digest_12 : decode cX3_digest 12 = .ok (.getfield 44, 3) := by decide +kernel
theorem dX3_digest_15 : decode cX3_digest 15 = .ok (.iastore, 1) := by decide +kernel
theorem dX3_digest_16 : decode cX3_digest 16 = .ok (.dup, 1) := by decide +kernel
theorem dX3_digest_17 : decode cX3_digest 17 = .ok (.iconst 1, 1) := by decide +kernel
theorem dX3_digest_18 : decode cX3_digest 18 = .ok (.aload_n 0, 1) := by decide +kernel
theorem dX3_digest_19 : decode cX3_digest 19 = .ok (.getfield 111, 3) := by decide +kernel
theorem dX3_digest_22 : decode cX3_digest 22 = .ok (.iastore, 1) := by decide +kernel
theorem dX3_digest_23 : decode cX3_digest 23 = .ok (.dup, 1) := by decide +kernel
theorem dX3_digest_24 : decode cX3_digest 24 = .ok (.iconst 2, 1) := by decide +kernel
theorem dX3_digest_25 : decode cX3_digest 25 = .ok (.aload_n 0, 1) := by decide +kernel
theorem dX3_digest_26 : decode cX3_digest 26 = .ok (.invokevirtual 114, 3) := by decide +kernel
theorem dX3_digest_29 : decode cX3_digest 29 = .ok (.iastore, 1) := by decide +kernel
theorem dX3_digest_30 : decode cX3_digest 30 = .ok (.dup, 1) := by decide +kernel
theorem dX3_digest_31 : decode cX3_digest 31 = .ok (.iconst 3, 1) := by decide +kernel
theorem dX3_digest_32 : decode cX3_digest 32 = .ok (.aload_n 0, 1) := by decide +kernel
theorem dX3_digest_33 : decode cX3_digest 33 = .ok (.getfield 104, 3) := by decide +kernel
theorem dX3_digest_36 : decode cX3_digest 36 = .ok (.iastore, 1) := by decide +kernel
theorem dX3_digest_37 : decode cX3_digest 37 = .ok (.dup, 1) := by decide +kernel
theorem dX3_digest_38 : decode cX3_digest 38 = .ok (.iconst 4, 1) := by decide +kernel
theorem dX3_digest_39 : decode cX3_digest 39 = .ok (.aload_n 0, 1) := by decide +kernel
theorem dX3_digest_40 : decode cX3_digest 40 = .ok (.iconst 1, 1) := by decide +kernel
theorem dX3_digest_41 : decode cX3_digest 41 = .ok (.invokevirtual 129, 3) := by decide +kernel
theorem dX3_digest_44 : decode cX3_digest 44 = .ok (.iastore, 1) := by decide +kernel
theorem dX3_digest_45 : decode cX3_digest 45 = .ok (.dup, 1) := by decide +kernel
theorem dX3_digest_46 : decode cX3_digest 46 = .ok (.iconst 5, 1) := by decide +kernel
theorem dX3_digest_47 : decode cX3_digest 47 = .ok (.aload_n 0, 1) := by decide +kernel
theorem dX3_digest_48 : decode cX3_digest 48 = .ok (.iconst 0, 1) := by decide +kernel
theorem dX3_digest_49 : decode cX3_digest 49 = .ok (.invokevirtual 129, 3) := by decide +kernel
theorem dX3_digest_52 : decode cX3_digest 52 = .ok (.iastore, 1) := by decide +kernel
theorem dX3_digest_53 : decode cX3_digest 53 = .ok (.astore_n 1, 1) := by decide +kernel
theorem dX3_digest_54 : decode cX3_digest 54 = .ok (.ldc2_w 142, 3) := by decide +kernel
theorem dX3_digest_57 : decode cX3_digest 57 = .ok (.lstore_n 2, 1) := by decide +kernel
theorem dX3_digest_58 : decode cX3_digest 58 = .ok (.aload_n 1, 1) := by decide +kernel
theorem dX3_digest_59 : decode cX3_digest 59 = .ok (.astore 4, 2) := by decide +kernel
theorem dX3_digest_61 : decode cX3_digest 61 = .ok (.aload 4, 2) := by decide +kernel
theorem dX3_digest_63 : decode cX3_digest 63 = .ok (.arraylength, 1) := by decide +kernel
theorem dX3_digest_64 : decode cX3_digest 64 = .ok (.istore 5, 2) := by decide +kernel
theorem dX3_digest_66 : decode cX3_digest 66 = .ok (.iconst 0, 1) := by decide +kernel
theorem dX3_digest_67 : decode cX3_digest 67 = .ok (.istore 6, 2) := by decide +kernel
theorem dX3_digest_69 : decode cX3_digest 69 = .ok (.iload 6, 2) := by decide +kernel
theorem dX3_digest_71 : decode cX3_digest 71 = .ok (.iload 5, 2) := by decide +kernel
theorem dX3_digest_73 : decode cX3_digest 73 = .ok (.if_icmp .ge 26, 3) := by decide +kernel
theorem dX3_digest_76 : decode cX3_digest 76 = .ok (.aload 4, 2) := by decide +kernel
theorem dX3_digest_78 : decode cX3_digest 78 = .ok (.iload 6, 2) := by decide +kernel
theorem dX3_digest_80 : decode cX3_digest 80 = .ok (.iaload, 1) := by decide +kernel
theorem dX3_digest_81 : decode cX3_digest 81 = .ok (.istore 7, 2) := by decide +kernel
theorem dX3_digest_83 : decode cX3_digest 83 = .ok (.lload_n 2, 1) := by decide +kernel
theorem dX3_digest_84 : decode cX3_digest 84 = .ok (.ldc2_w 144, 3) := by decide +kernel
theorem dX3_digest_87 : decode cX3_digest 87 = .ok (.lmul, 1) := by decide +kernel
theorem dX3_digest_88 : decode cX3_digest 88 = .ok (.iload 7, 2) := by decide +kernel
theorem dX3_digest_90 : decode cX3_digest 90 = .ok (.i2l, 1) := by decide +kernel
theorem dX3_digest_91 : decode cX3_digest 91 = .ok (.ladd, 1) := by decide +kernel
theorem dX3_digest_92 : decode cX3_digest 92 = .ok (.lstore_n 2, 1) := by decide +kernel
theorem dX3_digest_93 : decode cX3_digest 93 = .ok (.iinc 6 1, 3) := by decide +kernel
theorem dX3_digest_96 : decode cX3_digest 96 = .ok (.goto (-27), 3) := by decide +kernel
theorem dX3_digest_99 : decode cX3_digest 99 = .ok (.iconst 0, 1) := by decide +kernel
theorem dX3_digest_100 : decode cX3_digest 100 = .ok (.istore 4, 2) := by decide +kernel
theorem dX3_digest_102 : decode cX3_digest 102 = .ok (.iload 4, 2) := by decide +kernel
theorem dX3_digest_104 : decode cX3_digest 104 = .ok (.aload_n 0, 1) := by decide +kernel
theorem dX3_digest_105 : decode cX3_digest 105 = .ok (.getfield 44, 3) := by decide +kernel
theorem dX3_digest_108 : decode cX3_digest 108 = .ok (.if_icmp .ge 231, 3) := by decide +kernel
theorem dX3_digest_111 : decode cX3_digest 111 = .ok (.bipush 6, 2) := by decide +kernel
theorem dX3_digest_113 : decode cX3_digest 113 = .ok (.newarray .int, 2) := by decide +kernel
theorem dX3_digest_115 : decode cX3_digest 115 = .ok (.dup, 1) := by decide +kernel
theorem dX3_digest_116 : decode cX3_digest 116 = .ok (.iconst 0, 1) := by decide +kernel
theorem dX3_digest_117 : decode cX3_digest 117 = .ok (.aload_n 0, 1) := by decide +kernel
theorem dX3_digest_118 : decode cX3_digest 118 = .ok (.getfield 9, 3) := by decide +kernel
theorem dX3_digest_121 : decode cX3_digest 121 = .ok (.iload 4, 2) := by decide +kernel
theorem dX3_digest_123 : decode cX3_digest 123 = .ok (.iaload, 1) := by decide +kernel
theorem dX3_digest_124 : decode cX3_digest 124 = .ok (.iastore, 1) := by decide +kernel
theorem dX3_digest_125 : decode cX3_digest 125 = .ok (.dup, 1) := by decide +kernel
theorem dX3_digest_126 : decode cX3_digest 126 = .ok (.iconst 1, 1) := by decide +kernel
theorem dX3_digest_127 : decode cX3_digest 127 = .ok (.aload_n 0, 1) := by decide +kernel
theorem dX3_digest_128 : decode cX3_digest 128 = .ok (.getfield 13, 3) := by decide +kernel
theorem dX3_digest_131 : decode cX3_digest 131 = .ok (.iload 4, 2) := by decide +kernel
theorem dX3_digest_133 : decode cX3_digest 133 = .ok (.iaload, 1) := by decide +kernel
theorem dX3_digest_134 : decode cX3_digest 134 = .ok (.invokestatic 79, 3) := by decide +kernel
theorem dX3_digest_137 : decode cX3_digest 137 = .ok (.iastore, 1) := by decide +kernel
theorem dX3_digest_138 : decode cX3_digest 138 = .ok (.dup, 1) := by decide +kernel
theorem dX3_digest_139 : decode cX3_digest 139 = .ok (.iconst 2, 1) := by decide +kernel
theorem dX3_digest_140 : decode cX3_digest 140 = .ok (.aload_n 0, 1) := by decide +kernel
theorem dX3_digest_141 : decode cX3_digest 141 = .ok (.getfield 16, 3) := by decide +kernel
theorem dX3_digest_144 : decode cX3_digest 144 = .ok (.iload 4, 2) := by decide +kernel
theorem dX3_digest_146 : decode cX3_digest 146 = .ok (.iaload, 1) := by decide +kernel
theorem dX3_digest_147 : decode cX3_digest 147 = .ok (.iastore, 1) := by decide +kernel
theorem dX3_digest_148 : decode cX3_digest 148 = .ok (.dup, 1) := by decide +kernel
theorem dX3_digest_149 : decode cX3_digest 149 = .ok (.iconst 3, 1) := by decide +kernel
theorem dX3_digest_150 : decode cX3_digest 150 = .ok (.aload_n 0, 1) := by decide +kernel
theorem dX3_digest_151 : decode cX3_digest 151 = .ok (.getfield 19, 3) := by decide +kernel
theorem dX3_digest_154 : decode cX3_digest 154 = .ok (.iload 4, 2) := by decide +kernel
theorem dX3_digest_156 : decode cX3_digest 156 = .ok (.iaload, 1) := by decide +kernel
theorem dX3_digest_157 : decode cX3_digest 157 = .ok (.iastore, 1) := by decide +kernel
theorem dX3_digest_158 : decode cX3_digest 158 = .ok (.dup, 1) := by decide +kernel
theorem dX3_digest_159 : decode cX3_digest 159 = .ok (.iconst 4, 1) := by decide +kernel
theorem dX3_digest_160 : decode cX3_digest 160 = .ok (.aload_n 0, 1) := by decide +kernel
theorem dX3_digest_161 : decode cX3_digest 161 = .ok (.iload 4, 2) := by decide +kernel
theorem dX3_digest_163 : decode cX3_digest 163 = .ok (.invokevirtual 76, 3) := by decide +kernel
theorem dX3_digest_166 : decode cX3_digest 166 = .ok (.iastore, 1) := by decide +kernel
theorem dX3_digest_167 : decode cX3_digest 167 = .ok (.dup, 1) := by decide +kernel
theorem dX3_digest_168 : decode cX3_digest 168 = .ok (.iconst 5, 1) := by decide +kernel
theorem dX3_digest_169 : decode cX3_digest 169 = .ok (.aload_n 0, 1) := by decide +kernel
theorem dX3_digest_170 : decode cX3_digest 170 = .ok (.iload 4, 2) := by decide +kernel
theorem dX3_digest_172 : decode cX3_digest 172 = .ok (.invokevirtual 91, 3) := by decide +kernel
theorem dX3_digest_175 : decode cX3_digest 175 = .ok (.iastore, 1) := by decide +kernel
theorem dX3_digest_176 : decode cX3_digest 176 = .ok (.astore 5, 2) := by decide +kernel
theorem dX3_digest_178 : decode cX3_digest 178 = .ok (.aload 5, 2) := by decide +kernel
theorem dX3_digest_180 : decode cX3_digest 180 = .ok (.astore 6, 2) := by decide +kernel
theorem dX3_digest_182 : decode cX3_digest 182 = .ok (.aload 6, 2) := by decide +kernel
theorem dX3_digest_184 : decode cX3_digest 184 = .ok (.arraylength, 1) := by decide +kernel
theorem dX3_digest_185 : decode cX3_digest 185 = .ok (.istore 7, 2) := by decide +kernel
theorem dX3_digest_187 : decode cX3_digest 187 = .ok (.iconst 0, 1) := by decide +kernel
theorem dX3_digest_188 : decode cX3_digest 188 = .ok (.istore 8, 2) := by decide +kernel
theorem dX3_digest_190 : decode cX3_digest 190 = .ok (.iload 8, 2) := by decide +kernel
theorem dX3_digest_192 : decode cX3_digest 192 = .ok (.iload 7, 2) := by decide +kernel
theorem dX3_digest_194 : decode cX3_digest 194 = .ok (.if_icmp .ge 26, 3) := by decide +kernel
theorem dX3_digest_197 : decode cX3_digest 197 = .ok (.aload 6, 2) := by decide +kernel
theorem dX3_digest_199 : decode cX3_digest 199 = .ok (.iload 8, 2) := by decide +kernel
theorem dX3_digest_201 : decode cX3_digest 201 = .ok (.iaload, 1) := by decide +kernel
theorem dX3_digest_202 : decode cX3_digest 202 = .ok (.istore 9, 2) := by decide +kernel
theorem dX3_digest_204 : decode cX3_digest 204 = .ok (.lload_n 2, 1) := by decide +kernel
theorem dX3_digest_205 : decode cX3_digest 205 = .ok (.ldc2_w 144, 3) := by decide +kernel
theorem dX3_digest_208 : decode cX3_digest 208 = .ok (.lmul, 1) := by decide +kernel
theorem dX3_digest_209 : decode cX3_digest 209 = .ok (.iload 9, 2) := by decide +kernel
theorem dX3_digest_211 : decode cX3_digest 211 = .ok (.i2l, 1) := by decide +kernel
theorem dX3_digest_212 : decode cX3_digest 212 = .ok (.ladd, 1) := by decide +kernel
theorem dX3_digest_213 : decode cX3_digest 213 = .ok (.lstore_n 2, 1) := by decide +kernel
theorem dX3_digest_214 : decode cX3_digest 214 = .ok (.iinc 8 1, 3) := by decide +kernel
theorem dX3_digest_217 : decode cX3_digest 217 = .ok (.goto (-27), 3) := by decide +kernel
theorem dX3_digest_220 : decode cX3_digest 220 = .ok (.iconst 0, 1) := by decide +kernel
theorem dX3_digest_221 : decode cX3_digest 221 = .ok (.istore 6, 2) := by decide +kernel
theorem dX3_digest_223 : decode cX3_digest 223 = .ok (.iload 6, 2) := by decide +kernel
theorem dX3_digest_225 : decode cX3_digest 225 = .ok (.bipush 12, 2) := by decide +kernel
theorem dX3_digest_227 : decode cX3_digest 227 = .ok (.if_icmp .ge 32, 3) := by decide +kernel
theorem dX3_digest_230 : decode cX3_digest 230 = .ok (.lload_n 2, 1) := by decide +kernel
theorem dX3_digest_231 : decode cX3_digest 231 = .ok (.ldc2_w 144, 3) := by decide +kernel
theorem dX3_digest_234 : decode cX3_digest 234 = .ok (.lmul, 1) := by decide +kernel
theorem dX3_digest_235 : decode cX3_digest 235 = .ok (.aload_n 0, 1) := by decide +kernel
theorem dX3_digest_236 : decode cX3_digest 236 = .ok (.getfield 13, 3) := by decide +kernel
theorem dX3_digest_239 : decode cX3_digest 239 = .ok (.iload 4, 2) := by decide +kernel
theorem dX3_digest_241 : decode cX3_digest 241 = .ok (.iaload, 1) := by decide +kernel
theorem dX3_digest_242 : decode cX3_digest 242 = .ok (.iload 6, 2) := by decide +kernel
theorem dX3_digest_244 : decode cX3_digest 244 = .ok (.invokestatic 51, 3) := by decide +kernel
theorem dX3_digest_247 : decode cX3_digest 247 = .ok (.invokestatic 146, 3) := by decide +kernel
theorem dX3_digest_250 : decode cX3_digest 250 = .ok (.i2l, 1) := by decide +kernel
theorem dX3_digest_251 : decode cX3_digest 251 = .ok (.ladd, 1) := by decide +kernel
theorem dX3_digest_252 : decode cX3_digest 252 = .ok (.lstore_n 2, 1) := by decide +kernel
theorem dX3_digest_253 : decode cX3_digest 253 = .ok (.iinc 6 1, 3) := by decide +kernel
theorem dX3_digest_256 : decode cX3_digest 256 = .ok (.goto (-33), 3) := by decide +kernel
theorem dX3_digest_259 : decode cX3_digest 259 = .ok (.iconst 0, 1) := by decide +kernel
theorem dX3_digest_260 : decode cX3_digest 260 = .ok (.istore 6, 2) := by decide +kernel
theorem dX3_digest_262 : decode cX3_digest 262 = .ok (.iload 6, 2) := by decide +kernel
theorem dX3_digest_264 : decode cX3_digest 264 = .ok (.bipush 6, 2) := by decide +kernel
theorem dX3_digest_266 : decode cX3_digest 266 = .ok (.if_icmp .ge 32, 3) := by decide +kernel
theorem dX3_digest_269 : decode cX3_digest 269 = .ok (.lload_n 2, 1) := by decide +kernel
theorem dX3_digest_270 : decode cX3_digest 270 = .ok (.ldc2_w 144, 3) := by decide +kernel
theorem dX3_digest_273 : decode cX3_digest 273 = .ok (.lmul, 1) := by decide +kernel
theorem dX3_digest_274 : decode cX3_digest 274 = .ok (.aload_n 0, 1) := by decide +kernel
theorem dX3_digest_275 : decode cX3_digest 275 = .ok (.getfield 22, 3) := by decide +kernel
theorem dX3_digest_278 : decode cX3_digest 278 = .ok (.iload 6, 2) := by decide +kernel
theorem dX3_digest_280 : decode cX3_digest 280 = .ok (.iaload, 1) := by decide +kernel
theorem dX3_digest_281 : decode cX3_digest 281 = .ok (.iload 4, 2) := by decide +kernel
theorem dX3_digest_283 : decode cX3_digest 283 = .ok (.invokestatic 51, 3) := by decide +kernel
theorem dX3_digest_286 : decode cX3_digest 286 = .ok (.invokestatic 146, 3) := by decide +kernel
theorem dX3_digest_289 : decode cX3_digest 289 = .ok (.i2l, 1) := by decide +kernel
theorem dX3_digest_290 : decode cX3_digest 290 = .ok (.ladd, 1) := by decide +kernel
theorem dX3_digest_291 : decode cX3_digest 291 = .ok (.lstore_n 2, 1) := by decide +kernel
theorem dX3_digest_292 : decode cX3_digest 292 = .ok (.iinc 6 1, 3) := by decide +kernel
theorem dX3_digest_295 : decode cX3_digest 295 = .ok (.goto (-33), 3) := by decide +kernel
theorem dX3_digest_298 : decode cX3_digest 298 = .ok (.iconst 0, 1) := by decide +kernel
theorem dX3_digest_299 : decode cX3_digest 299 = .ok (.istore 6, 2) := by decide +kernel
theorem dX3_digest_301 : decode cX3_digest 301 = .ok (.iload 6, 2) := by decide +kernel
theorem dX3_digest_303 : decode cX3_digest 303 = .ok (.bipush 6, 2) := by decide +kernel
theorem dX3_digest_305 : decode cX3_digest 305 = .ok (.if_icmp .ge 28, 3) := by decide +kernel
theorem dX3_digest_308 : decode cX3_digest 308 = .ok (.lload_n 2, 1) := by decide +kernel
theorem dX3_digest_309 : decode cX3_digest 309 = .ok (.ldc2_w 144, 3) := by decide +kernel
theorem dX3_digest_312 : decode cX3_digest 312 = .ok (.lmul, 1) := by decide +kernel
theorem dX3_digest_313 : decode cX3_digest 313 = .ok (.aload_n 0, 1) := by decide +kernel
theorem dX3_digest_314 : decode cX3_digest 314 = .ok (.iload 4, 2) := by decide +kernel
theorem dX3_digest_316 : decode cX3_digest 316 = .ok (.iload 6, 2) := by decide +kernel
theorem dX3_digest_318 : decode cX3_digest 318 = .ok (.invokevirtual 88, 3) := by decide +kernel
theorem dX3_digest_321 : decode cX3_digest 321 = .ok (.invokestatic 146, 3) := by decide +kernel
theorem dX3_digest_324 : decode cX3_digest 324 = .ok (.i2l, 1) := by decide +kernel
theorem dX3_digest_325 : decode cX3_digest 325 = .ok (.ladd, 1) := by decide +kernel
theorem dX3_digest_326 : decode cX3_digest 326 = .ok (.lstore_n 2, 1) := by decide +kernel
theorem dX3_digest_327 : decode cX3_digest 327 = .ok (.iinc 6 1, 3) := by decide +kernel
theorem dX3_digest_330 : decode cX3_digest 330 = .ok (.goto (-29), 3) := by decide +kernel
theorem dX3_digest_333 : decode cX3_digest 333 = .ok (.iinc 4 1, 3) := by decide +kernel
theorem dX3_digest_336 : decode cX3_digest 336 = .ok (.goto (-234), 3) := by decide +kernel
theorem dX3_digest_339 : decode cX3_digest 339 = .ok (.iconst 0, 1) := by decide +kernel
theorem dX3_digest_340 : decode cX3_digest 340 = .ok (.istore 4, 2) := by decide +kernel
theorem dX3_digest_342 : decode cX3_digest 342 = .ok (.iload 4, 2) := by decide +kernel
theorem dX3_digest_344 : decode cX3_digest 344 = .ok (.bipush 6, 2) := by decide +kernel
theorem dX3_digest_346 : decode cX3_digest 346 = .ok (.if_icmp .ge 94, 3) := by decide +kernel
theorem dX3_digest_349 : decode cX3_digest 349 = .ok (.lload_n 2, 1) := by decide +kernel
theorem dX3_digest_350 : decode cX3_digest 350 = .ok (.ldc2_w 144, 3) := by decide +kernel
theorem dX3_digest_353 : decode cX3_digest 353 = .ok (.lmul, 1) := by decide +kernel
theorem dX3_digest_354 : decode cX3_digest 354 = .ok (.aload_n 0, 1) := by decide +kernel
theorem dX3_digest_355 : decode cX3_digest 355 = .ok (.getfield 22, 3) := by decide +kernel
theorem dX3_digest_358 : decode cX3_digest 358 = .ok (.iload 4, 2) := by decide +kernel
theorem dX3_digest_360 : decode cX3_digest 360 = .ok (.iaload, 1) := by decide +kernel
theorem dX3_digest_361 : decode cX3_digest 361 = .ok (.invokestatic 79, 3) := by decide +kernel
theorem dX3_digest_364 : decode cX3_digest 364 = .ok (.i2l, 1) := by decide +kernel
theorem dX3_digest_365 : decode cX3_digest 365 = .ok (.ladd, 1) := by decide +kernel
theorem dX3_digest_366 : decode cX3_digest 366 = .ok (.lstore_n 2, 1) := by decide +kernel
theorem dX3_digest_367 : decode cX3_digest 367 = .ok (.lload_n 2, 1) := by decide +kernel
theorem dX3_digest_368 : decode cX3_digest 368 = .ok (.ldc2_w 144, 3) := by decide +kernel
theorem dX3_digest_371 : decode cX3_digest 371 = .ok (.lmul, 1) := by decide +kernel
theorem dX3_digest_372 : decode cX3_digest 372 = .ok (.aload_n 0, 1) := by decide +kernel
theorem dX3_digest_373 : decode cX3_digest 373 = .ok (.iload 4, 2) := by decide +kernel
theorem dX3_digest_375 : decode cX3_digest 375 = .ok (.invokevirtual 123, 3) := by decide +kernel
theorem dX3_digest_378 : decode cX3_digest 378 = .ok (.i2l, 1) := by decide +kernel
theorem dX3_digest_379 : decode cX3_digest 379 = .ok (.ladd, 1) := by decide +kernel
theorem dX3_digest_380 : decode cX3_digest 380 = .ok (.lstore_n 2, 1) := by decide +kernel
theorem dX3_digest_381 : decode cX3_digest 381 = .ok (.lload_n 2, 1) := by decide +kernel
theorem dX3_digest_382 : decode cX3_digest 382 = .ok (.ldc2_w 144, 3) := by decide +kernel
theorem dX3_digest_385 : decode cX3_digest 385 = .ok (.lmul, 1) := by decide +kernel
theorem dX3_digest_386 : decode cX3_digest 386 = .ok (.aload_n 0, 1) := by decide +kernel
theorem dX3_digest_387 : decode cX3_digest 387 = .ok (.iload 4, 2) := by decide +kernel
theorem dX3_digest_389 : decode cX3_digest 389 = .ok (.invokevirtual 126, 3) := by decide +kernel
theorem dX3_digest_392 : decode cX3_digest 392 = .ok (.i2l, 1) := by decide +kernel
theorem dX3_digest_393 : decode cX3_digest 393 = .ok (.ladd, 1) := by decide +kernel
theorem dX3_digest_394 : decode cX3_digest 394 = .ok (.lstore_n 2, 1) := by decide +kernel
theorem dX3_digest_395 : decode cX3_digest 395 = .ok (.iconst 0, 1) := by decide +kernel
theorem dX3_digest_396 : decode cX3_digest 396 = .ok (.istore 5, 2) := by decide +kernel
theorem dX3_digest_398 : decode cX3_digest 398 = .ok (.iload 5, 2) := by decide +kernel
theorem dX3_digest_400 : decode cX3_digest 400 = .ok (.bipush 6, 2) := by decide +kernel
theorem dX3_digest_402 : decode cX3_digest 402 = .ok (.if_icmp .ge 32, 3) := by decide +kernel
theorem dX3_digest_405 : decode cX3_digest 405 = .ok (.lload_n 2, 1) := by decide +kernel
theorem dX3_digest_406 : decode cX3_digest 406 = .ok (.ldc2_w 144, 3) := by decide +kernel
theorem dX3_digest_409 : decode cX3_digest 409 = .ok (.lmul, 1) := by decide +kernel
theorem dX3_digest_410 : decode cX3_digest 410 = .ok (.aload_n 0, 1) := by decide +kernel
theorem dX3_digest_411 : decode cX3_digest 411 = .ok (.getfield 31, 3) := by decide +kernel
theorem dX3_digest_414 : decode cX3_digest 414 = .ok (.iload 4, 2) := by decide +kernel
theorem dX3_digest_416 : decode cX3_digest 416 = .ok (.iaload, 1) := by decide +kernel
theorem dX3_digest_417 : decode cX3_digest 417 = .ok (.iload 5, 2) := by decide +kernel
theorem dX3_digest_419 : decode cX3_digest 419 = .ok (.invokestatic 51, 3) := by decide +kernel
theorem dX3_digest_422 : decode cX3_digest 422 = .ok (.invokestatic 146, 3) := by decide +kernel
theorem dX3_digest_425 : decode cX3_digest 425 = .ok (.i2l, 1) := by decide +kernel
theorem dX3_digest_426 : decode cX3_digest 426 = .ok (.ladd, 1) := by decide +kernel
theorem dX3_digest_427 : decode cX3_digest 427 = .ok (.lstore_n 2, 1) := by decide +kernel
theorem dX3_digest_428 : decode cX3_digest 428 = .ok (.iinc 5 1, 3) := by decide +kernel
theorem dX3_digest_431 : decode cX3_digest 431 = .ok (.goto (-33), 3) := by decide +kernel
theorem dX3_digest_434 : decode cX3_digest 434 = .ok (.iinc 4 1, 3) := by decide +kernel
theorem dX3_digest_437 : decode cX3_digest 437 = .ok (.goto (-95), 3) := by decide +kernel
theorem dX3_digest_440 : decode cX3_digest 440 = .ok (.lload_n 2, 1) := by decide +kernel
theorem dX3_digest_441 : decode cX3_digest 441 = .ok (.lreturn, 1) := by decide +kernel
theorem dJ6_bitCount_0f7a4_0 : decode cJ6_bitCount_0f7a4 0 = .ok (.iload_n 0, 1) := by decide +kernel
theorem dJ6_bitCount_0f7a4_1 : decode cJ6_bitCount_0f7a4 1 = .ok (.iload_n 0, 1) := by decide +kernel
theorem dJ6_bitCount_0f7a4_2 : decode cJ6_bitCount_0f7a4 2 = .ok (.iconst 1, 1) := by decide +kernel
theorem dJ6_bitCount_0f7a4_3 : decode cJ6_bitCount_0f7a4 3 = .ok (.iushr, 1) := by decide +kernel
theorem dJ6_bitCount_0f7a4_4 : decode cJ6_bitCount_0f7a4 4 = .ok (.ldc_w 265, 3) := by decide +kernel
theorem dJ6_bitCount_0f7a4_7 : decode cJ6_bitCount_0f7a4 7 = .ok (.iand, 1) := by decide +kernel
theorem dJ6_bitCount_0f7a4_8 : decode cJ6_bitCount_0f7a4 8 = .ok (.isub, 1) := by decide +kernel
theorem dJ6_bitCount_0f7a4_9 : decode cJ6_bitCount_0f7a4 9 = .ok (.istore_n 0, 1) := by decide +kernel
theorem dJ6_bitCount_0f7a4_10 : decode cJ6_bitCount_0f7a4 10 = .ok (.iload_n 0, 1) := by decide +kernel
theorem dJ6_bitCount_0f7a4_11 : decode cJ6_bitCount_0f7a4 11 = .ok (.ldc_w 266, 3) := by decide +kernel
theorem dJ6_bitCount_0f7a4_14 : decode cJ6_bitCount_0f7a4 14 = .ok (.iand, 1) := by decide +kernel
theorem dJ6_bitCount_0f7a4_15 : decode cJ6_bitCount_0f7a4 15 = .ok (.iload_n 0, 1) := by decide +kernel
theorem dJ6_bitCount_0f7a4_16 : decode cJ6_bitCount_0f7a4 16 = .ok (.iconst 2, 1) := by decide +kernel
theorem dJ6_bitCount_0f7a4_17 : decode cJ6_bitCount_0f7a4 17 = .ok (.iushr, 1) := by decide +kernel
theorem dJ6_bitCount_0f7a4_18 : decode cJ6_bitCount_0f7a4 18 = .ok (.ldc_w 266, 3) := by decide +kernel
theorem dJ6_bitCount_0f7a4_21 : decode cJ6_bitCount_0f7a4 21 = .ok (.iand, 1) := by decide +kernel
theorem dJ6_bitCount_0f7a4_22 : decode cJ6_bitCount_0f7a4 22 = .ok (.iadd, 1) := by decide +kernel
theorem dJ6_bitCount_0f7a4_23 : decode cJ6_bitCount_0f7a4 23 = .ok (.istore_n 0, 1) := by decide +kernel
theorem dJ6_bitCount_0f7a4_24 : decode cJ6_bitCount_0f7a4 24 = .ok (.iload_n 0, 1) := by decide +kernel
theorem dJ6_bitCount_0f7a4_25 : decode cJ6_bitCount_0f7a4 25 = .ok (.iload_n 0, 1) := by decide +kernel
theorem dJ6_bitCount_0f7a4_26 : decode cJ6_bitCount_0f7a4 26 = .ok (.iconst 4, 1) := by decide +kernel
theorem dJ6_bitCount_0f7a4_27 : decode cJ6_bitCount_0f7a4 27 = .ok (.iushr, 1) := by decide +kernel
theorem dJ6_bitCount_0f7a4_28 : decode cJ6_bitCount_0f7a4 28 = .ok (.iadd, 1) := by decide +kernel
theorem dJ6_bitCount_0f7a4_29 : decode cJ6_bitCount_0f7a4 29 = .ok (.ldc_w 267, 3) := by decide +kernel
theorem dJ6_bitCount_0f7a4_32 : decode cJ6_bitCount_0f7a4 32 = .ok (.iand, 1) := by decide +kernel
theorem dJ6_bitCount_0f7a4_33 : decode cJ6_bitCount_0f7a4 33 = .ok (.istore_n 0, 1) := by decide +kernel
theorem dJ6_bitCount_0f7a4_34 : decode cJ6_bitCount_0f7a4 34 = .ok (.iload_n 0, 1) := by decide +kernel
theorem dJ6_bitCount_0f7a4_35 : decode cJ6_bitCount_0f7a4 35 = .ok (.iload_n 0, 1) := by decide +kernel
theorem dJ6_bitCount_0f7a4_36 : decode cJ6_bitCount_0f7a4 36 = .ok (.bipush 8, 2) := by decide +kernel
theorem dJ6_bitCount_0f7a4_38 : decode cJ6_bitCount_0f7a4 38 = .ok (.iushr, 1) := by decide +kernel
theorem dJ6_bitCount_0f7a4_39 : decode cJ6_bitCount_0f7a4 39 = .ok (.iadd, 1) := by decide +kernel
theorem dJ6_bitCount_0f7a4_40 : decode cJ6_bitCount_0f7a4 40 = .ok (.istore_n 0, 1) := by decide +kernel
theorem dJ6_bitCount_0f7a4_41 : decode cJ6_bitCount_0f7a4 41 = .ok (.iload_n 0, 1) := by decide +kernel
theorem dJ6_bitCount_0f7a4_42 : decode cJ6_bitCount_0f7a4 42 = .ok (.iload_n 0, 1) := by decide +kernel
theorem dJ6_bitCount_0f7a4_43 : decode cJ6_bitCount_0f7a4 43 = .ok (.bipush 16, 2) := by decide +kernel
theorem dJ6_bitCount_0f7a4_45 : decode cJ6_bitCount_0f7a4 45 = .ok (.iushr, 1) := by decide +kernel
theorem dJ6_bitCount_0f7a4_46 : decode cJ6_bitCount_0f7a4 46 = .ok (.iadd, 1) := by decide +kernel
theorem dJ6_bitCount_0f7a4_47 : decode cJ6_bitCount_0f7a4 47 = .ok (.istore_n 0, 1) := by decide +kernel
theorem dJ6_bitCount_0f7a4_48 : decode cJ6_bitCount_0f7a4 48 = .ok (.iload_n 0, 1) := by decide +kernel
theorem dJ6_bitCount_0f7a4_49 : decode cJ6_bitCount_0f7a4 49 = .ok (.bipush 63, 2) := by decide +kernel
theorem dJ6_bitCount_0f7a4_51 : decode cJ6_bitCount_0f7a4 51 = .ok (.iand, 1) := by decide +kernel
theorem dJ6_bitCount_0f7a4_52 : decode cJ6_bitCount_0f7a4 52 = .ok (.ireturn, 1) := by decide +kernel
