theorem dX0_init_0 : decode cX0_init 0 = .ok (.aload_n 0, 1) := by decide +kernel
theorem dX0_init_1 : decode cX0_init 1 = .ok (.invokespecial 3, 3) := by decide +kernel
theorem dX0_init_4 : decode cX0_init 4 = .ok (.aload_n 0, 1) := by decide +kernel
theorem dX0_init_5 : decode cX0_init 5 = .ok (.iconst 0, 1) := by decide +kernel
theorem dX0_init_6 : decode cX0_init 6 = .ok (.putfield 9, 3) := by decide +kernel
theorem dX0_init_9 : decode cX0_init 9 = .ok (.aload_n 0, 1) := by decide +kernel
theorem dX0_init_10 : decode cX0_init 10 = .ok (.bipush 20, 2) := by decide +kernel
theorem dX0_init_12 : decode cX0_init 12 = .ok (.newarray .int, 2) := by decide +kernel
theorem dX0_init_14 : decode cX0_init 14 = .ok (.putfield 15, 3) := by decide +kernel
theorem dX0_init_17 : decode cX0_init 17 = .ok (.aload_n 0, 1) := by decide +kernel
theorem dX0_init_18 : decode cX0_init 18 = .ok (.bipush 20, 2) := by decide +kernel
theorem dX0_init_20 : decode cX0_init 20 = .ok (.newarray .int, 2) := by decide +kernel
theorem dX0_init_22 : decode cX0_init 22 = .ok (.putfield 19, 3) := by decide +kernel
theorem dX0_init_25 : decode cX0_init 25 = .ok (.aload_n 0, 1) := by decide +kernel
theorem dX0_init_26 : decode cX0_init 26 = .ok (.bipush 20, 2) := by decide +kernel
theorem dX0_init_28 : decode cX0_init 28 = .ok (.newarray .int, 2) := by decide +kernel
theorem dX0_init_30 : decode cX0_init 30 = .ok (.putfield 22, 3) := by decide +kernel
theorem dX0_init_33 : decode cX0_init 33 = .ok (.aload_n 0, 1) := by decide +kernel
theorem dX0_init_34 : decode cX0_init 34 = .ok (.bipush 20, 2) := by decide +kernel
theorem dX0_init_36 : decode cX0_init 36 = .ok (.newarray .int, 2) := by decide +kernel
theorem dX0_init_38 : decode cX0_init 38 = .ok (.putfield 25, 3) := by decide +kernel
theorem dX0_init_41 : decode cX0_init 41 = .ok (.aload_n 0, 1) := by decide +kernel
theorem dX0_init_42 : decode cX0_init 42 = .ok (.bipush 20, 2) := by decide +kernel
theorem dX0_init_44 : decode cX0_init 44 = .ok (.newarray .int, 2) := by decide +kernel
theorem dX0_init_46 : decode cX0_init 46 = .ok (.putfield 28, 3) := by decide +kernel
theorem dX0_init_49 : decode cX0_init 49 = .ok (.aload_n 0, 1) := by decide +kernel
theorem dX0_init_50 : decode cX0_init 50 = .ok (.bipush 20, 2) := by decide +kernel
theorem dX0_init_52 : decode cX0_init 52 = .ok (.newarray .int, 2) := by decide +kernel
theorem dX0_init_54 : decode cX0_init 54 = .ok (.putfield 31, 3) := by decide +kernel
theorem dX0_init_57 : decode cX0_init 57 = .ok (.return_, 1) := by decide +kernel
theorem dX0_write_0 : decode cX0_write 0 = .ok (.aload_n 0, 1) := by decide +kernel
theorem dX0_write_1 : decode cX0_write 1 = .ok (.getfield 9, 3) := by decide +kernel
theorem dX0_write_4 : decode cX0_write 4 = .ok (.istore 5, 2) := by decide +kernel
theorem dX0_write_6 : decode cX0_write 6 = .ok (.aload_n 0, 1) := by decide +kernel
theorem dX0_write_7 : decode cX0_write 7 = .ok (.getfield 15, 3) := by decide +kernel
theorem dX0_write_10 : decode cX0_write 10 = .ok (.iload 5, 2) := by decide +kernel
theorem dX0_write_12 : decode cX0_write 12 = .ok (.iload_n 1, 1) := by decide +kernel
theorem dX0_write_13 : decode cX0_write 13 = .ok (.iastore, 1) := by decide +kernel
theorem dX0_write_14 : decode cX0_write 14 = .ok (.aload_n 0, 1) := by decide +kernel
theorem dX0_write_15 : decode cX0_write 15 = .ok (.getfield 19, 3) := by decide +kernel
theorem dX0_write_18 : decode cX0_write 18 = .ok (.iload 5, 2) := by decide +kernel
theorem dX0_write_20 : decode cX0_write 20 = .ok (.iload_n 2, 1) := by decide +kernel
theorem dX0_write_21 : decode cX0_write 21 = .ok (.iastore, 1) := by decide +kernel
theorem dX0_write_22 : decode cX0_write 22 = .ok (.aload_n 0, 1) := by decide +kernel
theorem dX0_write_23 : decode cX0_write 23 = .ok (.getfield 22, 3) := by decide +kernel
theorem dX0_write_26 : decode cX0_write 26 = .ok (.iload 5, 2) := by decide +kernel
theorem dX0_write_28 : decode cX0_write 28 = .ok (.iload_n 3, 1) := by decide +kernel
theorem dX0_write_29 : decode cX0_write 29 = .ok (.iastore, 1) := by decide +kernel
theorem dX0_write_30 : decode cX0_write 30 = .ok (.aload_n 0, 1) := by decide +kernel
theorem dX0_write_31 : decode cX0_write 31 = .ok (.getfield 25, 3) := by decide +kernel
theorem dX0_write_34 : decode cX0_write 34 = .ok (.iload 5, 2) := by decide +kernel
theorem dX0_write_36 : decode cX0_write 36 = .ok (.iload 4, 2) := by decide +kernel
theorem dX0_write_38 : decode cX0_write 38 = .ok (.iastore, 1) := by decide +kernel
theorem dX0_write_39 : decode cX0_write 39 = .ok (.aload_n 0, 1) := by decide +kernel
theorem dX0_write_40 : decode cX0_write 40 = .ok (.getfield 28, 3) := by decide +kernel
theorem dX0_write_43 : decode cX0_write 43 = .ok (.iload 5, 2) := by decide +kernel
theorem dX0_write_45 : decode cX0_write 45 = .ok (.iconst 0, 1) := by decide +kernel
theorem dX0_write_46 : decode cX0_write 46 = .ok (.iastore, 1) := by decide +kernel
theorem dX0_write_47 : decode cX0_write 47 = .ok (.aload_n 0, 1) := by decide +kernel
theorem dX0_write_48 : decode cX0_write 48 = .ok (.getfield 31, 3) := by decide +kernel
theorem dX0_write_51 : decode cX0_write 51 = .ok (.iload 5, 2) := by decide +kernel
theorem dX0_write_53 : decode cX0_write 53 = .ok (.iconst 1, 1) := by decide +kernel
theorem dX0_write_54 : decode cX0_write 54 = .ok (.iload 5, 2) := by decide +kernel
theorem dX0_write_56 : decode cX0_write 56 = .ok (.ishl, 1) := by decide +kernel
theorem dX0_write_57 : decode cX0_write 57 = .ok (.iastore, 1) := by decide +kernel
theorem dX0_write_58 : decode cX0_write 58 = .ok (.iload 4, 2) := by decide +kernel
theorem dX0_write_60 : decode cX0_write 60 = .ok (.ifCond .lt 34, 3) := by decide +kernel
theorem dX0_write_63 : decode cX0_write 63 = .ok (.aload_n 0, 1) := by decide +kernel
theorem dX0_write_64 : decode cX0_write 64 = .ok (.getfield 28, 3) := by decide +kernel
theorem dX0_write_67 : decode cX0_write 67 = .ok (.iload 4, 2) := by decide +kernel
theorem dX0_write_69 : decode cX0_write 69 = .ok (.dup2, 1) := by decide +kernel
theorem dX0_write_70 : decode cX0_write 70 = .ok (.iaload, 1) := by decide +kernel
theorem dX0_write_71 : decode cX0_write 71 = .ok (.iconst 1, 1) := by decide +kernel
theorem dX0_write_72 : decode cX0_write 72 = .ok (.iload 5, 2) := by decide +kernel
theorem dX0_write_74 : decode cX0_write 74 = .ok (.ishl, 1) := by decide +kernel
theorem dX0_write_75 : decode cX0_write 75 = .ok (.ior, 1) := by decide +kernel
theorem dX0_write_76 : decode cX0_write 76 = .ok (.iastore, 1) := by decide +kernel
theorem dX0_write_77 : decode cX0_write 77 = .ok (.aload_n 0, 1) := by decide +kernel
theorem dX0_write_78 : decode cX0_write 78 = .ok (.getfield 31, 3) := by decide +kernel
theorem dX0_write_81 : decode cX0_write 81 = .ok (.iload 5, 2) := by decide +kernel
theorem dX0_write_83 : decode cX0_write 83 = .ok (.dup2, 1) := by decide +kernel
theorem dX0_write_84 : decode cX0_write 84 = .ok (.iaload, 1) := by decide +kernel
theorem dX0_write_85 : decode cX0_write 85 = .ok (.aload_n 0, 1) := by decide +kernel
theorem dX0_write_86 : decode cX0_write 86 = .ok (.getfield 31, 3) := by decide +kernel
theorem dX0_write_89 : decode cX0_write 89 = .ok (.iload 4, 2) := by decide +kernel
theorem dX0_write_91 : decode cX0_write 91 = .ok (.iaload, 1) := by decide +kernel
theorem dX0_write_92 : decode cX0_write 92 = .ok (.ior, 1) := by decide +kernel
theorem dX0_write_93 : decode cX0_write 93 = .ok (.iastore, 1) := by decide +kernel
theorem dX0_write_94 : decode cX0_write 94 = .ok (.aload_n 0, 1) := by decide +kernel
theorem dX0_write_95 : decode cX0_write 95 = .ok (.dup, 1) := by decide +kernel
theorem dX0_write_96 : decode cX0_write 96 = .ok (.getfield 9, 3) := by decide +kernel
theorem dX0_write_99 : decode cX0_write 99 = .ok (.iconst 1, 1) := by decide +kernel
theorem dX0_write_100 : decode cX0_write 100 = .ok (.iadd, 1) := by decide +kernel
theorem dX0_write_101 : decode cX0_write 101 = .ok (.putfield 9, 3) := by decide +kernel
theorem dX0_write_104 : decode cX0_write 104 = .ok (.iload 5, 2) := by decide +kernel
theorem dX0_write_106 : decode cX0_write 106 = .ok (.ireturn, 1) := by decide +kernel
theorem dX0_all_0 : decode cX0_all 0 = .ok (.iconst 1, 1) := by decide +kernel
theorem dX0_all_1 : decode cX0_all 1 = .ok (.aload_n 0, 1) := by decide +kernel
theorem dX0_all_2 : decode cX0_all 2 = .ok (.getfield 9, 3) := by decide +kernel
theorem dX0_all_5 : decode cX0_all 5 = .ok (.ishl, 1) := by decide +kernel
theorem dX0_all_6 : decode cX0_all 6 = .ok (.iconst 1, 1) := by decide +kernel
theorem dX0_all_7 : decode cX0_all 7 = .ok (.isub, 1) := by decide +kernel
theorem dX0_all_8 : decode cX0_all 8 = .ok (.ireturn, 1) := by decide +kernel
theorem dX0_withMoral_0 : decode cX0_withMoral 0 = .ok (.iconst 0, 1) := by decide +kernel
theorem dX0_withMoral_1 : decode cX0_withMoral 1 = .ok (.istore_n 2, 1) := by decide +kernel
theorem dX0_withMoral_2 : decode cX0_withMoral 2 = .ok (.iconst 0, 1) := by decide +kernel
theorem dX0_withMoral_3 : decode cX0_withMoral 3 = .ok (.istore_n 3, 1) := by decide +kernel
theorem dX0_withMoral_4 : decode cX0_withMoral 4 = .ok (.iload_n 3, 1) := by decide +kernel
theorem dX0_withMoral_5 : decode cX0_withMoral 5 = .ok (.aload_n 0, 1) := by decide +kernel
theorem dX0_withMoral_6 : decode cX0_withMoral 6 = .ok (.getfield 9, 3) := by decide +kernel
theorem dX0_withMoral_9 : decode cX0_withMoral 9 = .ok (.if_icmp .ge 25, 3) := by decide +kernel
theorem dX0_withMoral_12 : decode cX0_withMoral 12 = .ok (.aload_n 0, 1) := by decide +kernel
theorem dX0_withMoral_13 : decode cX0_withMoral 13 = .ok (.getfield 15, 3) := by decide +kernel
theorem dX0_withMoral_16 : decode cX0_withMoral 16 = .ok (.iload_n 3, 1) := by decide +kernel
theorem dX0_withMoral_17 : decode cX0_withMoral 17 = .ok (.iaload, 1) := by decide +kernel
theorem dX0_withMoral_18 : decode cX0_withMoral 18 = .ok (.iload_n 1, 1) := by decide +kernel
theorem dX0_withMoral_19 : decode cX0_withMoral 19 = .ok (.if_icmp .ne 9, 3) := by decide +kernel
theorem dX0_withMoral_22 : decode cX0_withMoral 22 = .ok (.iload_n 2, 1) := by decide +kernel
theorem dX0_withMoral_23 : decode cX0_withMoral 23 = .ok (.iconst 1, 1) := by decide +kernel
theorem dX0_withMoral_24 : decode cX0_withMoral 24 = .ok (.iload_n 3, 1) := by decide +kernel
theorem dX0_withMoral_25 : decode cX0_withMoral 25 = .ok (.ishl, 1) := by decide +kernel
theorem dX0_withMoral_26 : decode cX0_withMoral 26 = .ok (.ior, 1) := by decide +kernel
theorem dX0_withMoral_27 : decode cX0_withMoral 27 = .ok (.istore_n 2, 1) := by decide +kernel
theorem dX0_withMoral_28 : decode cX0_withMoral 28 = .ok (.iinc 3 1, 3) := by decide +kernel
theorem dX0_withMoral_31 : decode cX0_withMoral 31 = .ok (.goto (-27), 3) := by decide +kernel
theorem dX0_withMoral_34 : decode cX0_withMoral 34 = .ok (.iload_n 2, 1) := by decide +kernel
theorem dX0_withMoral_35 : decode cX0_withMoral 35 = .ok (.ireturn, 1) := by decide +kernel
set_option maxRecDepth 20000 in
theorem ggX0_withBeast_X2_has : GoodIn wsX0_withBeast wsX2_has := goodIn_r _ [5] (by decide +kernel) (by decide +kernel)
set_option maxRecDepth 20000 in
theorem gX0_withBeast_X2_has_n34 : GoodIn wsX0_withBeast (wsX2_has) := ggX0_withBeast_X2_has
theorem dX0_withBeast_0 : decode cX0_withBeast 0 = .ok (.iconst 0, 1) := by decide +kernel
theorem dX0_withBeast_1 : decode cX0_withBeast 1 = .ok (.istore_n 2, 1) := by decide +kernel
theorem dX0_withBeast_2 : decode cX0_withBeast 2 = .ok (.iconst 0, 1) := by decide +kernel
theorem dX0_withBeast_3 : decode cX0_withBeast 3 = .ok (.istore_n 3, 1) := by decide +kernel
theorem dX0_withBeast_4 : decode cX0_withBeast 4 = .ok (.iload_n 3, 1) := by decide +kernel
theorem dX0_withBeast_5 : decode cX0_withBeast 5 = .ok (.aload_n 0, 1) := by decide +kernel
theorem dX0_withBeast_6 : decode cX0_withBeast 6 = .ok (.getfield 9, 3) := by decide +kernel
theorem dX0_withBeast_9 : decode cX0_withBeast 9 = .ok (.if_icmp .ge 28, 3) := by decide +kernel
theorem dX0_withBeast_12 : decode cX0_withBeast 12 = .ok (.aload_n 0, 1) := by decide +kernel
theorem dX0_withBeast_13 : decode cX0_withBeast 13 = .ok (.getfield 19, 3) := by decide +kernel
theorem dX0_withBeast_16 : decode cX0_withBeast 16 = .ok (.iload_n 3, 1) := by decide +kernel
theorem dX0_withBeast_17 : decode cX0_withBeast 17 = .ok (.iaload, 1) := by decide +kernel
theorem dX0_withBeast_18 : decode cX0_withBeast 18 = .ok (.iload_n 1, 1) := by decide +kernel
theorem dX0_withBeast_19 : decode cX0_withBeast 19 = .ok (.invokestatic 34, 3) := by decide +kernel
theorem dX0_withBeast_22 : decode cX0_withBeast 22 = .ok (.ifCond .eq 9, 3) := by decide +kernel
theorem dX0_withBeast_25 : decode cX0_withBeast 25 = .ok (.iload_n 2, 1) := by decide +kernel
theorem dX0_withBeast_26 : decode cX0_withBeast 26 = .ok (.iconst 1, 1) := by decide +kernel
theorem dX0_withBeast_27 : decode cX0_withBeast 27 = .ok (.iload_n 3, 1) := by decide +kernel
theorem dX0_withBeast_28 : decode cX0_withBeast 28 = .ok (.ishl, 1) := by decide +kernel
theorem dX0_withBeast_29 : decode cX0_withBeast 29 = .ok (.ior, 1) := by decide +kernel
theorem dX0_withBeast_30 : decode cX0_withBeast 30 = .ok (.istore_n 2, 1) := by decide +kernel
theorem dX0_withBeast_31 : decode cX0_withBeast 31 = .ok (.iinc 3 1, 3) := by decide +kernel
theorem dX0_withBeast_34 : decode cX0_withBeast 34 = .ok (.goto (-30), 3) := by decide +kernel
theorem dX0_withBeast_37 : decode cX0_withBeast 37 = .ok (.iload_n 2, 1) := by decide +kernel
theorem dX0_withBeast_38 : decode cX0_withBeast 38 = .ok (.ireturn, 1) := by decide +kernel
theorem dX1_init_0 : decode cX1_init 0 = .ok (.aload_n 0, 1) := by decide +kernel
theorem dX1_init_1 : decode cX1_init 1 = .ok (.invokespecial 3, 3) := by decide +kernel
theorem dX1_init_4 : decode cX1_init 4 = .ok (.aload_n 0, 1) := by decide +kernel
theorem dX1_init_5 : decode cX1_init 5 = .ok (.bipush 6, 2) := by decide +kernel
theorem dX1_init_7 : decode cX1_init 7 = .ok (.newarray .int, 2) := by decide +kernel
theorem dX1_init_9 : decode cX1_init 9 = .ok (.putfield 9, 3) := by decide +kernel
theorem dX1_init_12 : decode cX1_init 12 = .ok (.aload_n 0, 1) := by decide +kernel
theorem dX1_init_13 : decode cX1_init 13 = .ok (.bipush 6, 2) := by decide +kernel
theorem dX1_init_15 : decode cX1_init 15 = .ok (.newarray .int, 2) := by decide +kernel
theorem dX1_init_17 : decode cX1_init 17 = .ok (.putfield 15, 3) := by decide +kernel
theorem dX1_init_20 : decode cX1_init 20 = .ok (.aload_n 0, 1) := by decide +kernel
theorem dX1_init_21 : decode cX1_init 21 = .ok (.bipush 6, 2) := by decide +kernel
theorem dX1_init_23 : decode cX1_init 23 = .ok (.newarray .int, 2) := by decide +kernel
theorem dX1_init_25 : decode cX1_init 25 = .ok (.putfield 18, 3) := by decide +kernel
theorem dX1_init_28 : decode cX1_init 28 = .ok (.aload_n 0, 1) := by decide +kernel
theorem dX1_init_29 : decode cX1_init 29 = .ok (.bipush 6, 2) := by decide +kernel
theorem dX1_init_31 : decode cX1_init 31 = .ok (.newarray .int, 2) := by decide +kernel
theorem dX1_init_33 : decode cX1_init 33 = .ok (.putfield 21, 3) := by decide +kernel
theorem dX1_init_36 : decode cX1_init 36 = .ok (.aload_n 0, 1) := by decide +kernel
theorem dX1_init_37 : decode cX1_init 37 = .ok (.bipush 6, 2) := by decide +kernel
theorem dX1_init_39 : decode cX1_init 39 = .ok (.newarray .int, 2) := by decide +kernel
theorem dX1_init_41 : decode cX1_init 41 = .ok (.putfield 24, 3) := by decide +kernel
theorem dX1_init_44 : decode cX1_init 44 = .ok (.aload_n 0, 1) := by decide +kernel
theorem dX1_init_45 : decode cX1_init 45 = .ok (.bipush 6, 2) := by decide +kernel
theorem dX1_init_47 : decode cX1_init 47 = .ok (.newarray .int, 2) := by decide +kernel
theorem dX1_init_49 : decode cX1_init 49 = .ok (.putfield 27, 3) := by decide +kernel
theorem dX1_init_52 : decode cX1_init 52 = .ok (.aload_n 0, 1) := by decide +kernel
theorem dX1_init_53 : decode cX1_init 53 = .ok (.iconst 0, 1) := by decide +kernel
theorem dX1_init_54 : decode cX1_init 54 = .ok (.putfield 30, 3) := by decide +kernel
theorem dX1_init_57 : decode cX1_init 57 = .ok (.return_, 1) := by decide +kernel
set_option maxRecDepth 20000 in
theorem ggX1_turnWay_X2_turned : GoodIn wsX1_turnWay wsX2_turned := goodIn_r _ [4] (by decide +kernel) (by decide +kernel)
set_option maxRecDepth 20000 in
theorem gX1_turnWay_X2_turned_n34 : GoodIn wsX1_turnWay (wsX2_turned) := ggX1_turnWay_X2_turned
theorem dX1_turnWay_0 : decode cX1_turnWay 0 = .ok (.aload_n 0, 1) := by decide +kernel
theorem dX1_turnWay_1 : decode cX1_turnWay 1 = .ok (.getfield 9, 3) := by decide +kernel
theorem dX1_turnWay_4 : decode cX1_turnWay 4 = .ok (.iload_n 1, 1) := by decide +kernel
theorem dX1_turnWay_5 : decode cX1_turnWay 5 = .ok (.aload_n 0, 1) := by decide +kernel
theorem dX1_turnWay_6 : decode cX1_turnWay 6 = .ok (.getfield 9, 3) := by decide +kernel
theorem dX1_turnWay_9 : decode cX1_turnWay 9 = .ok (.iload_n 1, 1) := by decide +kernel
theorem dX1_turnWay_10 : decode cX1_turnWay 10 = .ok (.iaload, 1) := by decide +kernel
theorem dX1_turnWay_11 : decode cX1_turnWay 11 = .ok (.iload_n 2, 1) := by decide +kernel
theorem dX1_turnWay_12 : decode cX1_turnWay 12 = .ok (.invokestatic 34, 3) := by decide +kernel
theorem dX1_turnWay_15 : decode cX1_turnWay 15 = .ok (.iastore, 1) := by decide +kernel
theorem dX1_turnWay_16 : decode cX1_turnWay 16 = .ok (.aload_n 0, 1) := by decide +kernel
theorem dX1_turnWay_17 : decode cX1_turnWay 17 = .ok (.getfield 9, 3) := by decide +kernel
theorem dX1_turnWay_20 : decode cX1_turnWay 20 = .ok (.iload_n 2, 1) := by decide +kernel
theorem dX1_turnWay_21 : decode cX1_turnWay 21 = .ok (.aload_n 0, 1) := by decide +kernel
theorem dX1_turnWay_22 : decode cX1_turnWay 22 = .ok (.getfield 9, 3) := by decide +kernel
theorem dX1_turnWay_25 : decode cX1_turnWay 25 = .ok (.iload_n 2, 1) := by decide +kernel
theorem dX1_turnWay_26 : decode cX1_turnWay 26 = .ok (.iaload, 1) := by decide +kernel
theorem dX1_turnWay_27 : decode cX1_turnWay 27 = .ok (.iload_n 1, 1) := by decide +kernel
theorem dX1_turnWay_28 : decode cX1_turnWay 28 = .ok (.invokestatic 34, 3) := by decide +kernel
theorem dX1_turnWay_31 : decode cX1_turnWay 31 = .ok (.iastore, 1) := by decide +kernel
theorem dX1_turnWay_32 : decode cX1_turnWay 32 = .ok (.return_, 1) := by decide +kernel
set_option maxRecDepth 20000 in
theorem ggX1_bans_X2_has : GoodIn wsX1_bans wsX2_has := goodIn_r _ [7] (by decide +kernel) (by decide +kernel)
set_option maxRecDepth 20000 in
theorem gX1_bans_X2_has_n43 : GoodIn wsX1_bans (wsX2_has) := ggX1_bans_X2_has
theorem dX1_bans_0 : decode cX1_bans 0 = .ok (.aload_n 0, 1) := by decide +kernel
theorem dX1_bans_1 : decode cX1_bans 1 = .ok (.getfield 15, 3) := by decide +kernel
theorem dX1_bans_4 : decode cX1_bans 4 = .ok (.iload_n 3, 1) := by decide +kernel
theorem dX1_bans_5 : decode cX1_bans 5 = .ok (.iaload, 1) := by decide +kernel
theorem dX1_bans_6 : decode cX1_bans 6 = .ok (.aload_n 1, 1) := by decide +kernel
theorem dX1_bans_7 : decode cX1_bans 7 = .ok (.getfield 38, 3) := by decide +kernel
theorem dX1_bans_10 : decode cX1_bans 10 = .ok (.iload_n 2, 1) := by decide +kernel
theorem dX1_bans_11 : decode cX1_bans 11 = .ok (.iaload, 1) := by decide +kernel
theorem dX1_bans_12 : decode cX1_bans 12 = .ok (.invokestatic 43, 3) := by decide +kernel
theorem dX1_bans_15 : decode cX1_bans 15 = .ok (.ifCond .ne 19, 3) := by decide +kernel
theorem dX1_bans_18 : decode cX1_bans 18 = .ok (.aload_n 0, 1) := by decide +kernel
theorem dX1_bans_19 : decode cX1_bans 19 = .ok (.getfield 18, 3) := by decide +kernel
theorem dX1_bans_22 : decode cX1_bans 22 = .ok (.iload_n 3, 1) := by decide +kernel
theorem dX1_bans_23 : decode cX1_bans 23 = .ok (.iaload, 1) := by decide +kernel
theorem dX1_bans_24 : decode cX1_bans 24 = .ok (.aload_n 1, 1) := by decide +kernel
theorem dX1_bans_25 : decode cX1_bans 25 = .ok (.getfield 47, 3) := by decide +kernel
theorem dX1_bans_28 : decode cX1_bans 28 = .ok (.iload_n 2, 1) := by decide +kernel
theorem dX1_bans_29 : decode cX1_bans 29 = .ok (.iaload, 1) := by decide +kernel
theorem dX1_bans_30 : decode cX1_bans 30 = .ok (.iand, 1) := by decide +kernel
theorem dX1_bans_31 : decode cX1_bans 31 = .ok (.ifCond .eq 7, 3) := by decide +kernel
theorem dX1_bans_34 : decode cX1_bans 34 = .ok (.iconst 1, 1) := by decide +kernel
theorem dX1_bans_35 : decode cX1_bans 35 = .ok (.goto 4, 3) := by decide +kernel
theorem dX1_bans_38 : decode cX1_bans 38 = .ok (.iconst 0, 1) := by decide +kernel
theorem dX1_bans_39 : decode cX1_bans 39 = .ok (.ireturn, 1) := by decide +kernel
set_option maxRecDepth 20000 in
theorem ggX1_welcome_X1_bans : GoodIn wsX1_welcome wsX1_bans := goodIn_r _ [6, 7, 8, 9, 10, 11, 12, 13, 21, 22, 23, 24, 25, 26, 27, 14, 15, 16, 17, 18, 19, 20] (by decide +kernel) (by decide +kernel)
set_option maxRecDepth 20000 in
theorem gX1_welcome_X1_bans : GoodIn wsX1_welcome (wsV RX1 53 RX1 yX1_bans wsX1_bans) := goodIn_app (goodIn_of _ (by decide +kernel)) ggX1_welcome_X1_bans
theorem dX1_welcome_0 : decode cX1_welcome 0 = .ok (.iconst 0, 1) := by decide +kernel
theorem dX1_welcome_1 : decode cX1_welcome 1 = .ok (.istore_n 3, 1) := by decide +kernel
theorem dX1_welcome_2 : decode cX1_welcome 2 = .ok (.iconst 0, 1) := by decide +kernel
theorem dX1_welcome_3 : decode cX1_welcome 3 = .ok (.istore 4, 2) := by decide +kernel
theorem dX1_welcome_5 : decode cX1_welcome 5 = .ok (.iload 4, 2) := by decide +kernel
theorem dX1_welcome_7 : decode cX1_welcome 7 = .ok (.aload_n 1, 1) := by decide +kernel
theorem dX1_welcome_8 : decode cX1_welcome 8 = .ok (.getfield 50, 3) := by decide +kernel
theorem dX1_welcome_11 : decode cX1_welcome 11 = .ok (.if_icmp .ge 27, 3) := by decide +kernel
theorem dX1_welcome_14 : decode cX1_welcome 14 = .ok (.aload_n 0, 1) := by decide +kernel
theorem dX1_welcome_15 : decode cX1_welcome 15 = .ok (.aload_n 1, 1) := by decide +kernel
theorem dX1_welcome_16 : decode cX1_welcome 16 = .ok (.iload 4, 2) := by decide +kernel
theorem dX1_welcome_18 : decode cX1_welcome 18 = .ok (.iload_n 2, 1) := by decide +kernel
theorem dX1_welcome_19 : decode cX1_welcome 19 = .ok (.invokevirtual 53, 3) := by decide +kernel
theorem dX1_welcome_22 : decode cX1_welcome 22 = .ok (.ifCond .ne 10, 3) := by decide +kernel
theorem dX1_welcome_25 : decode cX1_welcome 25 = .ok (.iload_n 3, 1) := by decide +kernel
theorem dX1_welcome_26 : decode cX1_welcome 26 = .ok (.iconst 1, 1) := by decide +kernel
theorem dX1_welcome_27 : decode cX1_welcome 27 = .ok (.iload 4, 2) := by decide +kernel
theorem dX1_welcome_29 : decode cX1_welcome 29 = .ok (.ishl, 1) := by decide +kernel
theorem dX1_welcome_30 : decode cX1_welcome 30 = .ok (.ior, 1) := by decide +kernel
theorem dX1_welcome_31 : decode cX1_welcome 31 = .ok (.istore_n 3, 1) := by decide +kernel
theorem dX1_welcome_32 : decode cX1_welcome 32 = .ok (.iinc 4 1, 3) := by decide +kernel
theorem dX1_welcome_35 : decode cX1_welcome 35 = .ok (.goto (-30), 3) := by decide +kernel
theorem dX1_welcome_38 : decode cX1_welcome 38 = .ok (.iload_n 3, 1) := by decide +kernel
theorem dX1_welcome_39 : decode cX1_welcome 39 = .ok (.ireturn, 1) := by decide +kernel
set_option maxRecDepth 20000 in
theorem ggX1_count_X2_size : GoodIn wsX1_count wsX2_size := goodIn_r _ [4, 5, 6, 7, 8, 9, 10, 11] (by decide +kernel) (by decide +kernel)
set_option maxRecDepth 20000 in
theorem gX1_count_X2_size_n57 : GoodIn wsX1_count (wsX2_size) := ggX1_count_X2_size
theorem dX1_count_0 : decode cX1_count 0 = .ok (.iconst 0, 1) := by decide +kernel
theorem dX1_count_1 : decode cX1_count 1 = .ok (.istore_n 2, 1) := by decide +kernel
theorem dX1_count_2 : decode cX1_count 2 = .ok (.iconst 0, 1) := by decide +kernel
theorem dX1_count_3 : decode cX1_count 3 = .ok (.istore_n 3, 1) := by decide +kernel
theorem dX1_count_4 : decode cX1_count 4 = .ok (.iload_n 3, 1) := by decide +kernel
theorem dX1_count_5 : decode cX1_count 5 = .ok (.bipush 6, 2) := by decide +kernel
theorem dX1_count_7 : decode cX1_count 7 = .ok (.if_icmp .ge 23, 3) := by decide +kernel
theorem dX1_count_10 : decode cX1_count 10 = .ok (.iload_n 2, 1) := by decide +kernel
theorem dX1_count_11 : decode cX1_count 11 = .ok (.aload_n 0, 1) := by decide +kernel
theorem dX1_count_12 : decode cX1_count 12 = .ok (.getfield 21, 3) := by decide +kernel
theorem dX1_count_15 : decode cX1_count 15 = .ok (.iload_n 3, 1) := by decide +kernel
theorem dX1_count_16 : decode cX1_count 16 = .ok (.iaload, 1) := by decide +kernel
theorem dX1_count_17 : decode cX1_count 17 = .ok (.iload_n 1, 1) := by decide +kernel
theorem dX1_count_18 : decode cX1_count 18 = .ok (.iand, 1) := by decide +kernel
theorem dX1_count_19 : decode cX1_count 19 = .ok (.invokestatic 57, 3) := by decide +kernel
theorem dX1_count_22 : decode cX1_count 22 = .ok (.iadd, 1) := by decide +kernel
theorem dX1_count_23 : decode cX1_count 23 = .ok (.istore_n 2, 1) := by decide +kernel
theorem dX1_count_24 : decode cX1_count 24 = .ok (.iinc 3 1, 3) := by decide +kernel
theorem dX1_count_27 : decode cX1_count 27 = .ok (.goto (-23), 3) := by decide +kernel
theorem dX1_count_30 : decode cX1_count 30 = .ok (.iload_n 2, 1) := by decide +kernel
theorem dX1_count_31 : decode cX1_count 31 = .ok (.ireturn, 1) := by decide +kernel
set_option maxRecDepth 20000 in
theorem ggX1_live_X1_welcome : GoodIn wsX1_live wsX1_welcome := goodIn_r _ [6, 7, 8, 9, 10, 5, 11, 12, 13, 14, 15, 16, 17, 18, 58, 59, 60, 61, 62, 63, 64, 51, 52, 53, 54, 55, 56, 57] (by decide +kernel) (by decide +kernel)
set_option maxRecDepth 20000 in
theorem gX1_live_X1_welcome : GoodIn wsX1_live (wsV RX1 61 RX1 yX1_welcome wsX1_welcome) := goodIn_app (goodIn_of _ (by decide +kernel)) ggX1_live_X1_welcome
set_option maxRecDepth 20000 in
theorem ggX1_live_X1_hush : GoodIn wsX1_live wsX1_hush := goodIn_r _ [22, 23, 24, 1, 25, 26, 17, 27, 28, 29, 30, 31, 32, 33, 34, 51, 52, 53, 54, 55, 56, 57] (by decide +kernel) (by decide +kernel)
set_option maxRecDepth 20000 in
theorem gX1_live_X1_hush : GoodIn wsX1_live (wsV RX1 65 RX1 yX1_hush wsX1_hush) := goodIn_app (goodIn_of _ (by decide +kernel)) ggX1_live_X1_hush
set_option maxRecDepth 20000 in
theorem ggX1_live_X1_spread : GoodIn wsX1_live wsX1_spread := goodIn_r _ [38, 23, 24, 39, 40, 41, 5, 42, 43, 16, 17, 18, 44, 45, 46, 47, 1, 7, 12, 13, 48, 49, 50, 51, 52, 53, 54, 55, 56, 57, 58, 59, 60, 61, 62, 63, 64] (by decide +kernel) (by decide +kernel)
set_option maxRecDepth 20000 in
theorem gX1_live_X1_spread : GoodIn wsX1_live (wsV RX1 68 RX1 yX1_spread wsX1_spread) := goodIn_app (goodIn_of _ (by decide +kernel)) ggX1_live_X1_spread
theorem dX1_live_0 : decode cX1_live 0 = .ok (.iconst 0, 1) := by decide +kernel
theorem dX1_live_1 : decode cX1_live 1 = .ok (.istore_n 3, 1) := by decide +kernel
theorem dX1_live_2 : decode cX1_live 2 = .ok (.iload_n 3, 1) := by decide +kernel
theorem dX1_live_3 : decode cX1_live 3 = .ok (.bipush 6, 2) := by decide +kernel
theorem dX1_live_5 : decode cX1_live 5 = .ok (.if_icmp .ge 21, 3) := by decide +kernel
theorem dX1_live_8 : decode cX1_live 8 = .ok (.aload_n 0, 1) := by decide +kernel
theorem dX1_live_9 : decode cX1_live 9 = .ok (.getfield 24, 3) := by decide +kernel
theorem dX1_live_12 : decode cX1_live 12 = .ok (.iload_n 3, 1) := by decide +kernel
theorem dX1_live_13 : decode cX1_live 13 = .ok (.aload_n 0, 1) := by decide +kernel
theorem dX1_live_14 : decode cX1_live 14 = .ok (.aload_n 1, 1) := by decide +kernel
theorem dX1_live_15 : decode cX1_live 15 = .ok (.iload_n 3, 1) := by decide +kernel
theorem dX1_live_16 : decode cX1_live 16 = .ok (.invokevirtual 61, 3) := by decide +kernel
theorem dX1_live_19 : decode cX1_live 19 = .ok (.iastore, 1) := by decide +kernel
theorem dX1_live_20 : decode cX1_live 20 = .ok (.iinc 3 1, 3) := by decide +kernel
theorem dX1_live_23 : decode cX1_live 23 = .ok (.goto (-21), 3) := by decide +kernel
theorem dX1_live_26 : decode cX1_live 26 = .ok (.iconst 1, 1) := by decide +kernel
theorem dX1_live_27 : decode cX1_live 27 = .ok (.istore_n 3, 1) := by decide +kernel
theorem dX1_live_28 : decode cX1_live 28 = .ok (.iconst 0, 1) := by decide +kernel
theorem dX1_live_29 : decode cX1_live 29 = .ok (.istore 4, 2) := by decide +kernel
theorem dX1_live_31 : decode cX1_live 31 = .ok (.iload 4, 2) := by decide +kernel
theorem dX1_live_33 : decode cX1_live 33 = .ok (.iload_n 2, 1) := by decide +kernel
theorem dX1_live_34 : decode cX1_live 34 = .ok (.if_icmp .ge 23, 3) := by decide +kernel
theorem dX1_live_37 : decode cX1_live 37 = .ok (.iload_n 3, 1) := by decide +kernel
theorem dX1_live_38 : decode cX1_live 38 = .ok (.ifCond .eq 19, 3) := by decide +kernel
theorem dX1_live_41 : decode cX1_live 41 = .ok (.aload_n 0, 1) := by decide +kernel
theorem dX1_live_42 : decode cX1_live 42 = .ok (.invokevirtual 65, 3) := by decide +kernel
theorem dX1_live_45 : decode cX1_live 45 = .ok (.aload_n 0, 1) := by decide +kernel
theorem dX1_live_46 : decode cX1_live 46 = .ok (.aload_n 1, 1) := by decide +kernel
theorem dX1_live_47 : decode cX1_live 47 = .ok (.invokevirtual 68, 3) := by decide +kernel
theorem dX1_live_50 : decode cX1_live 50 = .ok (.istore_n 3, 1) := by decide +kernel
theorem dX1_live_51 : decode cX1_live 51 = .ok (.iinc 4 1, 3) := by decide +kernel
theorem dX1_live_54 : decode cX1_live 54 = .ok (.goto (-23), 3) := by decide +kernel
theorem dX1_live_57 : decode cX1_live 57 = .ok (.return_, 1) := by decide +kernel
set_option maxRecDepth 20000 in
theorem ggX1_hush_X2_size : GoodIn wsX1_hush wsX2_size := goodIn_r _ [7, 8, 9, 10, 11, 12, 13, 14] (by decide +kernel) (by decide +kernel)
set_option maxRecDepth 20000 in
theorem gX1_hush_X2_size_n57 : GoodIn wsX1_hush (wsX2_size) := ggX1_hush_X2_size
theorem dX1_hush_0 : decode cX1_hush 0 = .ok (.iconst 0, 1) := by decide +kernel
theorem dX1_hush_1 : decode cX1_hush 1 = .ok (.istore_n 1, 1) := by decide +kernel
theorem dX1_hush_2 : decode cX1_hush 2 = .ok (.iload_n 1, 1) := by decide +kernel
theorem dX1_hush_3 : decode cX1_hush 3 = .ok (.bipush 6, 2) := by decide +kernel
theorem dX1_hush_5 : decode cX1_hush 5 = .ok (.if_icmp .ge 55, 3) := by decide +kernel
theorem dX1_hush_8 : decode cX1_hush 8 = .ok (.aload_n 0, 1) := by decide +kernel
theorem dX1_hush_9 : decode cX1_hush 9 = .ok (.getfield 27, 3) := by decide +kernel
theorem dX1_hush_12 : decode cX1_hush 12 = .ok (.iload_n 1, 1) := by decide +kernel
theorem dX1_hush_13 : decode cX1_hush 13 = .ok (.aload_n 0, 1) := by decide +kernel
theorem dX1_hush_14 : decode cX1_hush 14 = .ok (.getfield 21, 3) := by decide +kernel
theorem dX1_hush_17 : decode cX1_hush 17 = .ok (.iload_n 1, 1) := by decide +kernel
theorem dX1_hush_18 : decode cX1_hush 18 = .ok (.iaload, 1) := by decide +kernel
theorem dX1_hush_19 : decode cX1_hush 19 = .ok (.aload_n 0, 1) := by decide +kernel
theorem dX1_hush_20 : decode cX1_hush 20 = .ok (.getfield 24, 3) := by decide +kernel
theorem dX1_hush_23 : decode cX1_hush 23 = .ok (.iload_n 1, 1) := by decide +kernel
theorem dX1_hush_24 : decode cX1_hush 24 = .ok (.iaload, 1) := by decide +kernel
theorem dX1_hush_25 : decode cX1_hush 25 = .ok (.iand, 1) := by decide +kernel
theorem dX1_hush_26 : decode cX1_hush 26 = .ok (.iastore, 1) := by decide +kernel
theorem dX1_hush_27 : decode cX1_hush 27 = .ok (.aload_n 0, 1) := by decide +kernel
theorem dX1_hush_28 : decode cX1_hush 28 = .ok (.dup, 1) := by decide +kernel
theorem dX1_hush_29 : decode cX1_hush 29 = .ok (.getfield 30, 3) := by decide +kernel
theorem dX1_hush_32 : decode cX1_hush 32 = .ok (.aload_n 0, 1) := by decide +kernel
theorem dX1_hush_33 : decode cX1_hush 33 = .ok (.getfield 21, 3) := by decide +kernel
theorem dX1_hush_36 : decode cX1_hush 36 = .ok (.iload_n 1, 1) := by decide +kernel
theorem dX1_hush_37 : decode cX1_hush 37 = .ok (.iaload, 1) := by decide +kernel
theorem dX1_hush_38 : decode cX1_hush 38 = .ok (.aload_n 0, 1) := by decide +kernel
theorem dX1_hush_39 : decode cX1_hush 39 = .ok (.getfield 24, 3) := by decide +kernel
theorem dX1_hush_42 : decode cX1_hush 42 = .ok (.iload_n 1, 1) := by decide +kernel
theorem dX1_hush_43 : decode cX1_hush 43 = .ok (.iaload, 1) := by decide +kernel
theorem dX1_hush_44 : decode cX1_hush 44 = .ok (.iconst (-1), 1) := by decide +kernel
theorem dX1_hush_45 : decode cX1_hush 45 = .ok (.ixor, 1) := by decide +kernel
theorem dX1_hush_46 : decode cX1_hush 46 = .ok (.iand, 1) := by decide +kernel
theorem dX1_hush_47 : decode cX1_hush 47 = .ok (.invokestatic 57, 3) := by decide +kernel
theorem dX1_hush_50 : decode cX1_hush 50 = .ok (.iadd, 1) := by decide +kernel
theorem dX1_hush_51 : decode cX1_hush 51 = .ok (.putfield 30, 3) := by decide +kernel
theorem dX1_hush_54 : decode cX1_hush 54 = .ok (.iinc 1 1, 3) := by decide +kernel
theorem dX1_hush_57 : decode cX1_hush 57 = .ok (.goto (-55), 3) := by decide +kernel
theorem dX1_hush_60 : decode cX1_hush 60 = .ok (.return_, 1) := by decide +kernel
set_option maxRecDepth 20000 in
theorem ggX1_spread_X1_arriving : GoodIn wsX1_spread wsX1_arriving := goodIn_r _ [7, 8, 1, 9, 10, 11, 23, 24, 25, 26, 27, 28, 29] (by decide +kernel) (by decide +kernel)
set_option maxRecDepth 20000 in
theorem gX1_spread_X1_arriving : GoodIn wsX1_spread (wsV RX1 72 RX1 yX1_arriving wsX1_arriving) := goodIn_app (goodIn_of _ (by decide +kernel)) ggX1_spread_X1_arriving
set_option maxRecDepth 20000 in
theorem ggX1_spread_X1_admitted : GoodIn wsX1_spread wsX1_admitted := goodIn_r _ [15, 16, 17, 18, 19, 20, 9, 10, 11, 21, 22, 23, 24, 25, 26, 27, 28, 29, 30, 31, 32, 33, 34, 35, 36] (by decide +kernel) (by decide +kernel)
set_option maxRecDepth 20000 in
theorem gX1_spread_X1_admitted : GoodIn wsX1_spread (wsV RX1 75 RX1 yX1_admitted wsX1_admitted) := goodIn_app (goodIn_of _ (by decide +kernel)) ggX1_spread_X1_admitted
theorem dX1_spread_0 : decode cX1_spread 0 = .ok (.iconst 0, 1) := by decide +kernel
theorem dX1_spread_1 : decode cX1_spread 1 = .ok (.istore_n 2, 1) := by decide +kernel
theorem dX1_spread_2 : decode cX1_spread 2 = .ok (.iconst 0, 1) := by decide +kernel
theorem dX1_spread_3 : decode cX1_spread 3 = .ok (.istore_n 3, 1) := by decide +kernel
theorem dX1_spread_4 : decode cX1_spread 4 = .ok (.iload_n 3, 1) := by decide +kernel
theorem dX1_spread_5 : decode cX1_spread 5 = .ok (.bipush 6, 2) := by decide +kernel
theorem dX1_spread_7 : decode cX1_spread 7 = .ok (.if_icmp .ge 58, 3) := by decide +kernel
theorem dX1_spread_10 : decode cX1_spread 10 = .ok (.aload_n 0, 1) := by decide +kernel
theorem dX1_spread_11 : decode cX1_spread 11 = .ok (.getfield 27, 3) := by decide +kernel
theorem dX1_spread_14 : decode cX1_spread 14 = .ok (.iload_n 3, 1) := by decide +kernel
theorem dX1_spread_15 : decode cX1_spread 15 = .ok (.iaload, 1) := by decide +kernel
theorem dX1_spread_16 : decode cX1_spread 16 = .ok (.aload_n 0, 1) := by decide +kernel
theorem dX1_spread_17 : decode cX1_spread 17 = .ok (.aload_n 1, 1) := by decide +kernel
theorem dX1_spread_18 : decode cX1_spread 18 = .ok (.iload_n 3, 1) := by decide +kernel
theorem dX1_spread_19 : decode cX1_spread 19 = .ok (.aload_n 0, 1) := by decide +kernel
theorem dX1_spread_20 : decode cX1_spread 20 = .ok (.iload_n 3, 1) := by decide +kernel
theorem dX1_spread_21 : decode cX1_spread 21 = .ok (.invokevirtual 72, 3) := by decide +kernel
theorem dX1_spread_24 : decode cX1_spread 24 = .ok (.invokevirtual 75, 3) := by decide +kernel
theorem dX1_spread_27 : decode cX1_spread 27 = .ok (.ior, 1) := by decide +kernel
theorem dX1_spread_28 : decode cX1_spread 28 = .ok (.istore 4, 2) := by decide +kernel
theorem dX1_spread_30 : decode cX1_spread 30 = .ok (.iload_n 2, 1) := by decide +kernel
theorem dX1_spread_31 : decode cX1_spread 31 = .ok (.ifCond .ne 14, 3) := by decide +kernel
theorem dX1_spread_34 : decode cX1_spread 34 = .ok (.iload 4, 2) := by decide +kernel
theorem dX1_spread_36 : decode cX1_spread 36 = .ok (.aload_n 0, 1) := by decide +kernel
theorem dX1_spread_37 : decode cX1_spread 37 = .ok (.getfield 21, 3) := by decide +kernel
theorem dX1_spread_40 : decode cX1_spread 40 = .ok (.iload_n 3, 1) := by decide +kernel
theorem dX1_spread_41 : decode cX1_spread 41 = .ok (.iaload, 1) := by decide +kernel
theorem dX1_spread_42 : decode cX1_spread 42 = .ok (.if_icmp .eq 7, 3) := by decide +kernel
theorem dX1_spread_45 : decode cX1_spread 45 = .ok (.iconst 1, 1) := by decide +kernel
theorem dX1_spread_46 : decode cX1_spread 46 = .ok (.goto 4, 3) := by decide +kernel
theorem dX1_spread_49 : decode cX1_spread 49 = .ok (.iconst 0, 1) := by decide +kernel
theorem dX1_spread_50 : decode cX1_spread 50 = .ok (.istore_n 2, 1) := by decide +kernel
theorem dX1_spread_51 : decode cX1_spread 51 = .ok (.aload_n 0, 1) := by decide +kernel
theorem dX1_spread_52 : decode cX1_spread 52 = .ok (.getfield 21, 3) := by decide +kernel
theorem dX1_spread_55 : decode cX1_spread 55 = .ok (.iload_n 3, 1) := by decide +kernel
theorem dX1_spread_56 : decode cX1_spread 56 = .ok (.iload 4, 2) := by decide +kernel
theorem dX1_spread_58 : decode cX1_spread 58 = .ok (.iastore, 1) := by decide +kernel
theorem dX1_spread_59 : decode cX1_spread 59 = .ok (.iinc 3 1, 3) := by decide +kernel
theorem dX1_spread_62 : decode cX1_spread 62 = .ok (.goto (-58), 3) := by decide +kernel
theorem dX1_spread_65 : decode cX1_spread 65 = .ok (.iload_n 2, 1) := by decide +kernel
theorem dX1_spread_66 : decode cX1_spread 66 = .ok (.ireturn, 1) := by decide +kernel
set_option maxRecDepth 20000 in
theorem ggX1_arriving_X2_has : GoodIn wsX1_arriving wsX2_has := goodIn_r _ [5] (by decide +kernel) (by decide +kernel)
set_option maxRecDepth 20000 in
theorem gX1_arriving_X2_has_n43 : GoodIn wsX1_arriving (wsX2_has) := ggX1_arriving_X2_has
theorem dX1_arriving_0 : decode cX1_arriving 0 = .ok (.iconst 0, 1) := by decide +kernel
theorem dX1_arriving_1 : decode cX1_arriving 1 = .ok (.istore_n 2, 1) := by decide +kernel
theorem dX1_arriving_2 : decode cX1_arriving 2 = .ok (.iconst 0, 1) := by decide +kernel
theorem dX1_arriving_3 : decode cX1_arriving 3 = .ok (.istore_n 3, 1) := by decide +kernel
theorem dX1_arriving_4 : decode cX1_arriving 4 = .ok (.iload_n 3, 1) := by decide +kernel
theorem dX1_arriving_5 : decode cX1_arriving 5 = .ok (.bipush 6, 2) := by decide +kernel
theorem dX1_arriving_7 : decode cX1_arriving 7 = .ok (.if_icmp .ge 31, 3) := by decide +kernel
theorem dX1_arriving_10 : decode cX1_arriving 10 = .ok (.aload_n 0, 1) := by decide +kernel
theorem dX1_arriving_11 : decode cX1_arriving 11 = .ok (.getfield 9, 3) := by decide +kernel
theorem dX1_arriving_14 : decode cX1_arriving 14 = .ok (.iload_n 1, 1) := by decide +kernel
theorem dX1_arriving_15 : decode cX1_arriving 15 = .ok (.iaload, 1) := by decide +kernel
theorem dX1_arriving_16 : decode cX1_arriving 16 = .ok (.iload_n 3, 1) := by decide +kernel
theorem dX1_arriving_17 : decode cX1_arriving 17 = .ok (.invokestatic 43, 3) := by decide +kernel
theorem dX1_arriving_20 : decode cX1_arriving 20 = .ok (.ifCond .eq 12, 3) := by decide +kernel
theorem dX1_arriving_23 : decode cX1_arriving 23 = .ok (.iload_n 2, 1) := by decide +kernel
theorem dX1_arriving_24 : decode cX1_arriving 24 = .ok (.aload_n 0, 1) := by decide +kernel
theorem dX1_arriving_25 : decode cX1_arriving 25 = .ok (.getfield 27, 3) := by decide +kernel
theorem dX1_arriving_28 : decode cX1_arriving 28 = .ok (.iload_n 3, 1) := by decide +kernel
theorem dX1_arriving_29 : decode cX1_arriving 29 = .ok (.iaload, 1) := by decide +kernel
theorem dX1_arriving_30 : decode cX1_arriving 30 = .ok (.ior, 1) := by decide +kernel
theorem dX1_arriving_31 : decode cX1_arriving 31 = .ok (.istore_n 2, 1) := by decide +kernel
theorem dX1_arriving_32 : decode cX1_arriving 32 = .ok (.iinc 3 1, 3) := by decide +kernel
theorem dX1_arriving_35 : decode cX1_arriving 35 = .ok (.goto (-31), 3) := by decide +kernel
theorem dX1_arriving_38 : decode cX1_arriving 38 = .ok (.iload_n 2, 1) := by decide +kernel
theorem dX1_arriving_39 : decode cX1_arriving 39 = .ok (.ireturn, 1) := by decide +kernel
set_option maxRecDepth 20000 in
theorem ggX1_admitted_X2_has : GoodIn wsX1_admitted wsX2_has := goodIn_r _ [8] (by decide +kernel) (by decide +kernel)
set_option maxRecDepth 20000 in
theorem gX1_admitted_X2_has_n43 : GoodIn wsX1_admitted (wsX2_has) := ggX1_admitted_X2_has
set_option maxRecDepth 20000 in
theorem ggX1_admitted_X2_smallestAlone : GoodIn wsX1_admitted wsX2_smallestAlone := goodIn_r _ [10] (by decide +kernel) (by decide +kernel)
set_option maxRecDepth 20000 in
theorem gX1_admitted_X2_smallestAlone_n82 : GoodIn wsX1_admitted (wsX2_smallestAlone) := ggX1_admitted_X2_smallestAlone
theorem dX1_admitted_0 : decode cX1_admitted 0 = .ok (.iload_n 3, 1) := by decide +kernel
theorem dX1_admitted_1 : decode cX1_admitted 1 = .ok (.aload_n 0, 1) := by decide +kernel
theorem dX1_admitted_2 : decode cX1_admitted 2 = .ok (.getfield 24, 3) := by decide +kernel
theorem dX1_admitted_5 : decode cX1_admitted 5 = .ok (.iload_n 2, 1) := by decide +kernel
theorem dX1_admitted_6 : decode cX1_admitted 6 = .ok (.iaload, 1) := by decide +kernel
theorem dX1_admitted_7 : decode cX1_admitted 7 = .ok (.iand, 1) := by decide +kernel
theorem dX1_admitted_8 : decode cX1_admitted 8 = .ok (.istore 4, 2) := by decide +kernel
theorem dX1_admitted_10 : decode cX1_admitted 10 = .ok (.iload_n 3, 1) := by decide +kernel
theorem dX1_admitted_11 : decode cX1_admitted 11 = .ok (.aload_n 0, 1) := by decide +kernel
theorem dX1_admitted_12 : decode cX1_admitted 12 = .ok (.getfield 24, 3) := by decide +kernel
theorem dX1_admitted_15 : decode cX1_admitted 15 = .ok (.iload_n 2, 1) := by decide +kernel
theorem dX1_admitted_16 : decode cX1_admitted 16 = .ok (.iaload, 1) := by decide +kernel
theorem dX1_admitted_17 : decode cX1_admitted 17 = .ok (.iconst (-1), 1) := by decide +kernel
theorem dX1_admitted_18 : decode cX1_admitted 18 = .ok (.ixor, 1) := by decide +kernel
theorem dX1_admitted_19 : decode cX1_admitted 19 = .ok (.iand, 1) := by decide +kernel
theorem dX1_admitted_20 : decode cX1_admitted 20 = .ok (.istore 5, 2) := by decide +kernel
theorem dX1_admitted_22 : decode cX1_admitted 22 = .ok (.iconst 0, 1) := by decide +kernel
theorem dX1_admitted_23 : decode cX1_admitted 23 = .ok (.istore 6, 2) := by decide +kernel
theorem dX1_admitted_25 : decode cX1_admitted 25 = .ok (.iload 6, 2) := by decide +kernel
theorem dX1_admitted_27 : decode cX1_admitted 27 = .ok (.aload_n 1, 1) := by decide +kernel
theorem dX1_admitted_28 : decode cX1_admitted 28 = .ok (.getfield 50, 3) := by decide +kernel
theorem dX1_admitted_31 : decode cX1_admitted 31 = .ok (.if_icmp .ge 60, 3) := by decide +kernel
theorem dX1_admitted_34 : decode cX1_admitted 34 = .ok (.iload 5, 2) := by decide +kernel
theorem dX1_admitted_36 : decode cX1_admitted 36 = .ok (.iload 6, 2) := by decide +kernel
theorem dX1_admitted_38 : decode cX1_admitted 38 = .ok (.invokestatic 43, 3) := by decide +kernel
theorem dX1_admitted_41 : decode cX1_admitted 41 = .ok (.ifCond .eq 44, 3) := by decide +kernel
theorem dX1_admitted_44 : decode cX1_admitted 44 = .ok (.aload_n 0, 1) := by decide +kernel
theorem dX1_admitted_45 : decode cX1_admitted 45 = .ok (.getfield 15, 3) := by decide +kernel
theorem dX1_admitted_48 : decode cX1_admitted 48 = .ok (.iload_n 2, 1) := by decide +kernel
theorem dX1_admitted_49 : decode cX1_admitted 49 = .ok (.iaload, 1) := by decide +kernel
theorem dX1_admitted_50 : decode cX1_admitted 50 = .ok (.aload_n 1, 1) := by decide +kernel
theorem dX1_admitted_51 : decode cX1_admitted 51 = .ok (.getfield 38, 3) := by decide +kernel
theorem dX1_admitted_54 : decode cX1_admitted 54 = .ok (.iload 6, 2) := by decide +kernel
theorem dX1_admitted_56 : decode cX1_admitted 56 = .ok (.iaload, 1) := by decide +kernel
theorem dX1_admitted_57 : decode cX1_admitted 57 = .ok (.invokestatic 43, 3) := by decide +kernel
theorem dX1_admitted_60 : decode cX1_admitted 60 = .ok (.ifCond .ne 25, 3) := by decide +kernel
theorem dX1_admitted_63 : decode cX1_admitted 63 = .ok (.iload 4, 2) := by decide +kernel
theorem dX1_admitted_65 : decode cX1_admitted 65 = .ok (.aload_n 1, 1) := by decide +kernel
theorem dX1_admitted_66 : decode cX1_admitted 66 = .ok (.getfield 79, 3) := by decide +kernel
theorem dX1_admitted_69 : decode cX1_admitted 69 = .ok (.iload 6, 2) := by decide +kernel
theorem dX1_admitted_71 : decode cX1_admitted 71 = .ok (.iaload, 1) := by decide +kernel
theorem dX1_admitted_72 : decode cX1_admitted 72 = .ok (.aload_n 0, 1) := by decide +kernel
theorem dX1_admitted_73 : decode cX1_admitted 73 = .ok (.getfield 24, 3) := by decide +kernel
theorem dX1_admitted_76 : decode cX1_admitted 76 = .ok (.iload_n 2, 1) := by decide +kernel
theorem dX1_admitted_77 : decode cX1_admitted 77 = .ok (.iaload, 1) := by decide +kernel
theorem dX1_admitted_78 : decode cX1_admitted 78 = .ok (.iand, 1) := by decide +kernel
theorem dX1_admitted_79 : decode cX1_admitted 79 = .ok (.invokestatic 82, 3) := by decide +kernel
theorem dX1_admitted_82 : decode cX1_admitted 82 = .ok (.ior, 1) := by decide +kernel
theorem dX1_admitted_83 : decode cX1_admitted 83 = .ok (.istore 4, 2) := by decide +kernel
theorem dX1_admitted_85 : decode cX1_admitted 85 = .ok (.iinc 6 1, 3) := by decide +kernel
theorem dX1_admitted_88 : decode cX1_admitted 88 = .ok (.goto (-63), 3) := by decide +kernel
theorem dX1_admitted_91 : decode cX1_admitted 91 = .ok (.iload 4, 2) := by decide +kernel
theorem dX1_admitted_93 : decode cX1_admitted 93 = .ok (.ireturn, 1) := by decide +kernel
set_option maxRecDepth 20000 in
theorem ggX2_init_X0_init : GoodIn wsX2_init wsX0_init := goodIn_r _ [16, 17, 2, 3, 18, 19, 20, 21, 22, 23, 24, 25, 37, 38, 39, 40, 41, 42, 43] (by decide +kernel) (by decide +kernel)
set_option maxRecDepth 20000 in
theorem gX2_init_X0_init : GoodIn wsX2_init (wsX0_init) := ggX2_init_X0_init
set_option maxRecDepth 20000 in
theorem ggX2_init_X1_init : GoodIn wsX2_init wsX1_init := goodIn_r _ [28, 29, 2, 3, 19, 30, 31, 32, 33, 34, 35, 36, 48, 49, 50, 51, 52, 53, 54] (by decide +kernel) (by decide +kernel)
set_option maxRecDepth 20000 in
theorem gX2_init_X1_init : GoodIn wsX2_init (wsX1_init) := ggX2_init_X1_init
theorem dX2_init_0 : decode cX2_init 0 = .ok (.aload_n 0, 1) := by decide +kernel
theorem dX2_init_1 : decode cX2_init 1 = .ok (.invokespecial 1, 3) := by decide +kernel
theorem dX2_init_4 : decode cX2_init 4 = .ok (.aload_n 0, 1) := by decide +kernel
theorem dX2_init_5 : decode cX2_init 5 = .ok (.new 7, 3) := by decide +kernel
theorem dX2_init_8 : decode cX2_init 8 = .ok (.dup, 1) := by decide +kernel
theorem dX2_init_9 : decode cX2_init 9 = .ok (.invokespecial 9, 3) := by decide +kernel
theorem dX2_init_12 : decode cX2_init 12 = .ok (.putfield 10, 3) := by decide +kernel
theorem dX2_init_15 : decode cX2_init 15 = .ok (.aload_n 0, 1) := by decide +kernel
theorem dX2_init_16 : decode cX2_init 16 = .ok (.new 16, 3) := by decide +kernel
theorem dX2_init_19 : decode cX2_init 19 = .ok (.dup, 1) := by decide +kernel
theorem dX2_init_20 : decode cX2_init 20 = .ok (.invokespecial 18, 3) := by decide +kernel
theorem dX2_init_23 : decode cX2_init 23 = .ok (.putfield 19, 3) := by decide +kernel
theorem dX2_init_26 : decode cX2_init 26 = .ok (.aload_n 0, 1) := by decide +kernel
theorem dX2_init_27 : decode cX2_init 27 = .ok (.new 16, 3) := by decide +kernel
theorem dX2_init_30 : decode cX2_init 30 = .ok (.dup, 1) := by decide +kernel
theorem dX2_init_31 : decode cX2_init 31 = .ok (.invokespecial 18, 3) := by decide +kernel
theorem dX2_init_34 : decode cX2_init 34 = .ok (.putfield 23, 3) := by decide +kernel
theorem dX2_init_37 : decode cX2_init 37 = .ok (.aload_n 0, 1) := by decide +kernel
theorem dX2_init_38 : decode cX2_init 38 = .ok (.iconst 0, 1) := by decide +kernel
theorem dX2_init_39 : decode cX2_init 39 = .ok (.putfield 26, 3) := by decide +kernel
theorem dX2_init_42 : decode cX2_init 42 = .ok (.return_, 1) := by decide +kernel
set_option maxRecDepth 20000 in
theorem ggX2_addFable_X2_needMoral : GoodIn wsX2_addFable wsX2_needMoral := goodIn_ca (goodIn_r _ [5, 6, 7] (by decide +kernel) (by decide +kernel)) (goodIn_sub (fun _ h => List.mem_cons_of_mem _ (List.mem_append_left _ (List.mem_append_right _ h))) (by decide +kernel))
set_option maxRecDepth 20000 in
theorem gX2_addFable_X2_needMoral : GoodIn wsX2_addFable (va_wsS RX2 30 yX2_needMoral wsX2_needMoral) := goodIn_app (goodIn_of _ (by decide +kernel)) ggX2_addFable_X2_needMoral
set_option maxRecDepth 20000 in
theorem ggX2_addFable_X2_needBeast : GoodIn wsX2_addFable wsX2_needBeast := goodIn_ca (goodIn_r _ [10, 6, 7] (by decide +kernel) (by decide +kernel)) (goodIn_sub (fun _ h => List.mem_cons_of_mem _ (List.mem_append_left _ (List.mem_append_right _ h))) (by decide +kernel))
set_option maxRecDepth 20000 in
theorem gX2_addFable_X2_needBeast : GoodIn wsX2_addFable (va_wsS RX2 34 yX2_needBeast wsX2_needBeast) := goodIn_app (goodIn_of _ (by decide +kernel)) ggX2_addFable_X2_needBeast
set_option maxRecDepth 20000 in
theorem ggX2_addFable_X2_needValley : GoodIn wsX2_addFable wsX2_needValley := goodIn_ca (goodIn_r _ [13, 6, 7] (by decide +kernel) (by decide +kernel)) (goodIn_sub (fun _ h => List.mem_cons_of_mem _ (List.mem_append_left _ (List.mem_append_right _ h))) (by decide +kernel))
set_option maxRecDepth 20000 in
theorem gX2_addFable_X2_needValley : GoodIn wsX2_addFable (va_wsS RX2 37 yX2_needValley wsX2_needValley) := goodIn_app (goodIn_of _ (by decide +kernel)) ggX2_addFable_X2_needValley
set_option maxRecDepth 20000 in
theorem ggX2_addFable_X2_needFreePage : GoodIn wsX2_addFable wsX2_needFreePage := goodIn_ca (goodIn_r _ [17, 18, 19, 1, 20, 33, 34, 35, 36, 37, 38, 39, 40, 41, 42, 43] (by decide +kernel) (by decide +kernel)) (goodIn_sub (fun _ h => List.mem_cons_of_mem _ (List.mem_append_right _ h)) (by decide +kernel))
set_option maxRecDepth 20000 in
theorem gX2_addFable_X2_needFreePage : GoodIn wsX2_addFable (wsV RX2 40 RX2 yX2_needFreePage wsX2_needFreePage) := goodIn_app (goodIn_of _ (by decide +kernel)) ggX2_addFable_X2_needFreePage
set_option maxRecDepth 20000 in
theorem ggX2_addFable_X0_write : GoodIn wsX2_addFable wsX0_write := goodIn_r _ [25, 26, 27, 28, 29, 30, 31, 32, 37, 38, 39, 40, 41, 42, 43] (by decide +kernel) (by decide +kernel)
set_option maxRecDepth 20000 in
theorem gX2_addFable_X0_write : GoodIn wsX2_addFable (wsV RX2 43 RX0 yX0_write wsX0_write) := goodIn_app (goodIn_of _ (by decide +kernel)) ggX2_addFable_X0_write
theorem dX2_addFable_0 : decode cX2_addFable 0 = .ok (.iload_n 1, 1) := by decide +kernel
theorem dX2_addFable_1 : decode cX2_addFable 1 = .ok (.invokestatic 30, 3) := by decide +kernel
theorem dX2_addFable_4 : decode cX2_addFable 4 = .ok (.iload_n 2, 1) := by decide +kernel
theorem dX2_addFable_5 : decode cX2_addFable 5 = .ok (.invokestatic 34, 3) := by decide +kernel
theorem dX2_addFable_8 : decode cX2_addFable 8 = .ok (.iload_n 3, 1) := by decide +kernel
theorem dX2_addFable_9 : decode cX2_addFable 9 = .ok (.invokestatic 37, 3) := by decide +kernel
theorem dX2_addFable_12 : decode cX2_addFable 12 = .ok (.aload_n 0, 1) := by decide +kernel
theorem dX2_addFable_13 : decode cX2_addFable 13 = .ok (.invokevirtual 40, 3) := by decide +kernel
theorem dX2_addFable_16 : decode cX2_addFable 16 = .ok (.aload_n 0, 1) := by decide +kernel
theorem dX2_addFable_17 : decode cX2_addFable 17 = .ok (.getfield 10, 3) := by decide +kernel
theorem dX2_addFable_20 : decode cX2_addFable 20 = .ok (.iload_n 1, 1) := by decide +kernel
theorem dX2_addFable_21 : decode cX2_addFable 21 = .ok (.iconst 1, 1) := by decide +kernel
theorem dX2_addFable_22 : decode cX2_addFable 22 = .ok (.iload_n 2, 1) := by decide +kernel
theorem dX2_addFable_23 : decode cX2_addFable 23 = .ok (.ishl, 1) := by decide +kernel
theorem dX2_addFable_24 : decode cX2_addFable 24 = .ok (.iload_n 3, 1) := by decide +kernel
theorem dX2_addFable_25 : decode cX2_addFable 25 = .ok (.iconst (-1), 1) := by decide +kernel
theorem dX2_addFable_26 : decode cX2_addFable 26 = .ok (.invokevirtual 43, 3) := by decide +kernel
theorem dX2_addFable_29 : decode cX2_addFable 29 = .ok (.ireturn, 1) := by decide +kernel
set_option maxRecDepth 20000 in
theorem ggX2_addBeast_X2_needFable : GoodIn wsX2_addBeast wsX2_needFable := goodIn_ca (goodIn_r _ [10, 11, 12, 3, 13, 30, 31, 32, 33, 34, 35, 36, 37, 38, 39, 40] (by decide +kernel) (by decide +kernel)) (goodIn_sub (fun _ h => List.mem_cons_of_mem _ (List.mem_append_right _ h)) (by decide +kernel))
set_option maxRecDepth 20000 in
theorem gX2_addBeast_X2_needFable : GoodIn wsX2_addBeast (wsV RX2 47 RX2 yX2_needFable wsX2_needFable) := goodIn_app (goodIn_of _ (by decide +kernel)) ggX2_addBeast_X2_needFable
set_option maxRecDepth 20000 in
theorem ggX2_addBeast_X2_needBeast : GoodIn wsX2_addBeast wsX2_needBeast := goodIn_ca (goodIn_r _ [16, 11, 12] (by decide +kernel) (by decide +kernel)) (goodIn_sub (fun _ h => List.mem_cons_of_mem _ (List.mem_append_right _ h)) (by decide +kernel))
set_option maxRecDepth 20000 in
theorem gX2_addBeast_X2_needBeast : GoodIn wsX2_addBeast (va_wsS RX2 34 yX2_needBeast wsX2_needBeast) := goodIn_app (goodIn_of _ (by decide +kernel)) ggX2_addBeast_X2_needBeast
set_option maxRecDepth 20000 in
theorem ggX2_addBeast_X2_has : GoodIn wsX2_addBeast wsX2_has := goodIn_r _ [19] (by decide +kernel) (by decide +kernel)
set_option maxRecDepth 20000 in
theorem gX2_addBeast_X2_has : GoodIn wsX2_addBeast (va_wsS RX2 54 yX2_has wsX2_has) := goodIn_app (goodIn_of _ (by decide +kernel)) ggX2_addBeast_X2_has
set_option maxRecDepth 20000 in
theorem ggX2_addBeast_X2_size : GoodIn wsX2_addBeast wsX2_size := goodIn_r _ [22, 23, 24, 25, 26, 27, 28, 29] (by decide +kernel) (by decide +kernel)
set_option maxRecDepth 20000 in
theorem gX2_addBeast_X2_size : GoodIn wsX2_addBeast (va_wsS RX2 70 yX2_size wsX2_size) := goodIn_app (goodIn_of _ (by decide +kernel)) ggX2_addBeast_X2_size
theorem dX2_addBeast_0 : decode cX2_addBeast 0 = .ok (.aload_n 0, 1) := by decide +kernel
theorem dX2_addBeast_1 : decode cX2_addBeast 1 = .ok (.iload_n 1, 1) := by decide +kernel
theorem dX2_addBeast_2 : decode cX2_addBeast 2 = .ok (.invokevirtual 47, 3) := by decide +kernel
theorem dX2_addBeast_5 : decode cX2_addBeast 5 = .ok (.iload_n 2, 1) := by decide +kernel
theorem dX2_addBeast_6 : decode cX2_addBeast 6 = .ok (.invokestatic 34, 3) := by decide +kernel
theorem dX2_addBeast_9 : decode cX2_addBeast 9 = .ok (.aload_n 0, 1) := by decide +kernel
theorem dX2_addBeast_10 : decode cX2_addBeast 10 = .ok (.getfield 10, 3) := by decide +kernel
theorem dX2_addBeast_13 : decode cX2_addBeast 13 = .ok (.getfield 50, 3) := by decide +kernel
theorem dX2_addBeast_16 : decode cX2_addBeast 16 = .ok (.iload_n 1, 1) := by decide +kernel
theorem dX2_addBeast_17 : decode cX2_addBeast 17 = .ok (.iaload, 1) := by decide +kernel
theorem dX2_addBeast_18 : decode cX2_addBeast 18 = .ok (.iload_n 2, 1) := by decide +kernel
theorem dX2_addBeast_19 : decode cX2_addBeast 19 = .ok (.invokestatic 54, 3) := by decide +kernel
theorem dX2_addBeast_22 : decode cX2_addBeast 22 = .ok (.ifCond .eq 13, 3) := by decide +kernel
theorem dX2_addBeast_25 : decode cX2_addBeast 25 = .ok (.new 58, 3) := by decide +kernel
theorem dX2_addBeast_28 : decode cX2_addBeast 28 = .ok (.dup, 1) := by decide +kernel
theorem dX2_addBeast_29 : decode cX2_addBeast 29 = .ok (.ldc 60, 2) := by decide +kernel
theorem dX2_addBeast_31 : decode cX2_addBeast 31 = .ok (.invokespecial 62, 3) := by decide +kernel
theorem dX2_addBeast_34 : decode cX2_addBeast 34 = .ok (.athrow, 1) := by decide +kernel
theorem dX2_addBeast_35 : decode cX2_addBeast 35 = .ok (.aload_n 0, 1) := by decide +kernel
theorem dX2_addBeast_36 : decode cX2_addBeast 36 = .ok (.getfield 10, 3) := by decide +kernel
theorem dX2_addBeast_39 : decode cX2_addBeast 39 = .ok (.getfield 65, 3) := by decide +kernel
theorem dX2_addBeast_42 : decode cX2_addBeast 42 = .ok (.iload_n 1, 1) := by decide +kernel
theorem dX2_addBeast_43 : decode cX2_addBeast 43 = .ok (.iaload, 1) := by decide +kernel
theorem dX2_addBeast_44 : decode cX2_addBeast 44 = .ok (.ifCond .eq 13, 3) := by decide +kernel
theorem dX2_addBeast_47 : decode cX2_addBeast 47 = .ok (.new 58, 3) := by decide +kernel
theorem dX2_addBeast_50 : decode cX2_addBeast 50 = .ok (.dup, 1) := by decide +kernel
theorem dX2_addBeast_51 : decode cX2_addBeast 51 = .ok (.ldc 68, 2) := by decide +kernel
theorem dX2_addBeast_53 : decode cX2_addBeast 53 = .ok (.invokespecial 62, 3) := by decide +kernel
theorem dX2_addBeast_56 : decode cX2_addBeast 56 = .ok (.athrow, 1) := by decide +kernel
theorem dX2_addBeast_57 : decode cX2_addBeast 57 = .ok (.aload_n 0, 1) := by decide +kernel
theorem dX2_addBeast_58 : decode cX2_addBeast 58 = .ok (.getfield 10, 3) := by decide +kernel
theorem dX2_addBeast_61 : decode cX2_addBeast 61 = .ok (.getfield 50, 3) := by decide +kernel
theorem dX2_addBeast_64 : decode cX2_addBeast 64 = .ok (.iload_n 1, 1) := by decide +kernel
theorem dX2_addBeast_65 : decode cX2_addBeast 65 = .ok (.dup2, 1) := by decide +kernel
theorem dX2_addBeast_66 : decode cX2_addBeast 66 = .ok (.iaload, 1) := by decide +kernel
theorem dX2_addBeast_67 : decode cX2_addBeast 67 = .ok (.iconst 1, 1) := by decide +kernel
theorem dX2_addBeast_68 : decode cX2_addBeast 68 = .ok (.iload_n 2, 1) := by decide +kernel
theorem dX2_addBeast_69 : decode cX2_addBeast 69 = .ok (.ishl, 1) := by decide +kernel
theorem dX2_addBeast_70 : decode cX2_addBeast 70 = .ok (.ior, 1) := by decide +kernel
theorem dX2_addBeast_71 : decode cX2_addBeast 71 = .ok (.iastore, 1) := by decide +kernel
theorem dX2_addBeast_72 : decode cX2_addBeast 72 = .ok (.aload_n 0, 1) := by decide +kernel
theorem dX2_addBeast_73 : decode cX2_addBeast 73 = .ok (.getfield 10, 3) := by decide +kernel
theorem dX2_addBeast_76 : decode cX2_addBeast 76 = .ok (.getfield 50, 3) := by decide +kernel
theorem dX2_addBeast_79 : decode cX2_addBeast 79 = .ok (.iload_n 1, 1) := by decide +kernel
theorem dX2_addBeast_80 : decode cX2_addBeast 80 = .ok (.iaload, 1) := by decide +kernel
theorem dX2_addBeast_81 : decode cX2_addBeast 81 = .ok (.invokestatic 70, 3) := by decide +kernel
theorem dX2_addBeast_84 : decode cX2_addBeast 84 = .ok (.ireturn, 1) := by decide +kernel
set_option maxRecDepth 20000 in
theorem ggX2_addVariant_X2_needFable : GoodIn wsX2_addVariant wsX2_needFable := goodIn_ca (goodIn_r _ [10, 11, 12, 3, 13, 42, 43, 44, 45, 46, 47, 48, 49, 50, 51, 52] (by decide +kernel) (by decide +kernel)) (goodIn_sub (fun _ h => List.mem_cons_of_mem _ (List.mem_append_right _ h)) (by decide +kernel))
set_option maxRecDepth 20000 in
theorem gX2_addVariant_X2_needFable : GoodIn wsX2_addVariant (wsV RX2 47 RX2 yX2_needFable wsX2_needFable) := goodIn_app (goodIn_of _ (by decide +kernel)) ggX2_addVariant_X2_needFable
set_option maxRecDepth 20000 in
theorem ggX2_addVariant_X2_needBeast : GoodIn wsX2_addVariant wsX2_needBeast := goodIn_ca (goodIn_r _ [16, 11, 12] (by decide +kernel) (by decide +kernel)) (goodIn_sub (fun _ h => List.mem_cons_of_mem _ (List.mem_append_right _ h)) (by decide +kernel))
set_option maxRecDepth 20000 in
theorem gX2_addVariant_X2_needBeast : GoodIn wsX2_addVariant (va_wsS RX2 34 yX2_needBeast wsX2_needBeast) := goodIn_app (goodIn_of _ (by decide +kernel)) ggX2_addVariant_X2_needBeast
set_option maxRecDepth 20000 in
theorem ggX2_addVariant_X2_needValley : GoodIn wsX2_addVariant wsX2_needValley := goodIn_ca (goodIn_r _ [19, 11, 12] (by decide +kernel) (by decide +kernel)) (goodIn_sub (fun _ h => List.mem_cons_of_mem _ (List.mem_append_right _ h)) (by decide +kernel))
set_option maxRecDepth 20000 in
theorem gX2_addVariant_X2_needValley : GoodIn wsX2_addVariant (va_wsS RX2 37 yX2_needValley wsX2_needValley) := goodIn_app (goodIn_of _ (by decide +kernel)) ggX2_addVariant_X2_needValley
set_option maxRecDepth 20000 in
theorem ggX2_addVariant_X2_needFreePage : GoodIn wsX2_addVariant wsX2_needFreePage := goodIn_ca (goodIn_r _ [23, 1, 2, 3, 13, 42, 43, 44, 45, 46, 47, 48, 49, 50, 51, 52] (by decide +kernel) (by decide +kernel)) (goodIn_sub (fun _ h => List.mem_cons_of_mem _ (List.mem_append_left _ (List.mem_append_right _ h))) (by decide +kernel))
set_option maxRecDepth 20000 in
theorem gX2_addVariant_X2_needFreePage : GoodIn wsX2_addVariant (wsV RX2 40 RX2 yX2_needFreePage wsX2_needFreePage) := goodIn_app (goodIn_of _ (by decide +kernel)) ggX2_addVariant_X2_needFreePage
set_option maxRecDepth 20000 in
theorem ggX2_addVariant_X2_has : GoodIn wsX2_addVariant wsX2_has := goodIn_r _ [26] (by decide +kernel) (by decide +kernel)
set_option maxRecDepth 20000 in
theorem gX2_addVariant_X2_has : GoodIn wsX2_addVariant (va_wsS RX2 54 yX2_has wsX2_has) := goodIn_app (goodIn_of _ (by decide +kernel)) ggX2_addVariant_X2_has
set_option maxRecDepth 20000 in
theorem ggX2_addVariant_X2_turned : GoodIn wsX2_addVariant wsX2_turned := goodIn_r _ [29] (by decide +kernel) (by decide +kernel)
set_option maxRecDepth 20000 in
theorem gX2_addVariant_X2_turned : GoodIn wsX2_addVariant (va_wsS RX2 81 yX2_turned wsX2_turned) := goodIn_app (goodIn_of _ (by decide +kernel)) ggX2_addVariant_X2_turned
set_option maxRecDepth 20000 in
theorem ggX2_addVariant_X0_write : GoodIn wsX2_addVariant wsX0_write := goodIn_r _ [34, 35, 36, 37, 38, 39, 40, 41, 46, 47, 48, 49, 50, 51, 52] (by decide +kernel) (by decide +kernel)
set_option maxRecDepth 20000 in
theorem gX2_addVariant_X0_write : GoodIn wsX2_addVariant (wsV RX2 43 RX0 yX0_write wsX0_write) := goodIn_app (goodIn_of _ (by decide +kernel)) ggX2_addVariant_X0_write
theorem dX2_addVariant_0 : decode cX2_addVariant 0 = .ok (.aload_n 0, 1) := by decide +kernel
theorem dX2_addVariant_1 : decode cX2_addVariant 1 = .ok (.iload_n 1, 1) := by decide +kernel
theorem dX2_addVariant_2 : decode cX2_addVariant 2 = .ok (.invokevirtual 47, 3) := by decide +kernel
theorem dX2_addVariant_5 : decode cX2_addVariant 5 = .ok (.iload_n 2, 1) := by decide +kernel
theorem dX2_addVariant_6 : decode cX2_addVariant 6 = .ok (.invokestatic 34, 3) := by decide +kernel
theorem dX2_addVariant_9 : decode cX2_addVariant 9 = .ok (.iload_n 3, 1) := by decide +kernel
theorem dX2_addVariant_10 : decode cX2_addVariant 10 = .ok (.invokestatic 34, 3) := by decide +kernel
theorem dX2_addVariant_13 : decode cX2_addVariant 13 = .ok (.iload 4, 2) := by decide +kernel
theorem dX2_addVariant_15 : decode cX2_addVariant 15 = .ok (.invokestatic 37, 3) := by decide +kernel
theorem dX2_addVariant_18 : decode cX2_addVariant 18 = .ok (.aload_n 0, 1) := by decide +kernel
theorem dX2_addVariant_19 : decode cX2_addVariant 19 = .ok (.invokevirtual 40, 3) := by decide +kernel
theorem dX2_addVariant_22 : decode cX2_addVariant 22 = .ok (.aload_n 0, 1) := by decide +kernel
theorem dX2_addVariant_23 : decode cX2_addVariant 23 = .ok (.getfield 10, 3) := by decide +kernel
theorem dX2_addVariant_26 : decode cX2_addVariant 26 = .ok (.getfield 50, 3) := by decide +kernel
theorem dX2_addVariant_29 : decode cX2_addVariant 29 = .ok (.iload_n 1, 1) := by decide +kernel
theorem dX2_addVariant_30 : decode cX2_addVariant 30 = .ok (.iaload, 1) := by decide +kernel
theorem dX2_addVariant_31 : decode cX2_addVariant 31 = .ok (.istore 5, 2) := by decide +kernel
theorem dX2_addVariant_33 : decode cX2_addVariant 33 = .ok (.iload 5, 2) := by decide +kernel
theorem dX2_addVariant_35 : decode cX2_addVariant 35 = .ok (.iload_n 2, 1) := by decide +kernel
theorem dX2_addVariant_36 : decode cX2_addVariant 36 = .ok (.invokestatic 54, 3) := by decide +kernel
theorem dX2_addVariant_39 : decode cX2_addVariant 39 = .ok (.ifCond .ne 13, 3) := by decide +kernel
theorem dX2_addVariant_42 : decode cX2_addVariant 42 = .ok (.new 58, 3) := by decide +kernel
theorem dX2_addVariant_45 : decode cX2_addVariant 45 = .ok (.dup, 1) := by decide +kernel
theorem dX2_addVariant_46 : decode cX2_addVariant 46 = .ok (.ldc 74, 2) := by decide +kernel
theorem dX2_addVariant_48 : decode cX2_addVariant 48 = .ok (.invokespecial 62, 3) := by decide +kernel
theorem dX2_addVariant_51 : decode cX2_addVariant 51 = .ok (.athrow, 1) := by decide +kernel
theorem dX2_addVariant_52 : decode cX2_addVariant 52 = .ok (.iload 5, 2) := by decide +kernel
theorem dX2_addVariant_54 : decode cX2_addVariant 54 = .ok (.iload_n 3, 1) := by decide +kernel
theorem dX2_addVariant_55 : decode cX2_addVariant 55 = .ok (.invokestatic 54, 3) := by decide +kernel
theorem dX2_addVariant_58 : decode cX2_addVariant 58 = .ok (.ifCond .eq 13, 3) := by decide +kernel
theorem dX2_addVariant_61 : decode cX2_addVariant 61 = .ok (.new 58, 3) := by decide +kernel
theorem dX2_addVariant_64 : decode cX2_addVariant 64 = .ok (.dup, 1) := by decide +kernel
theorem dX2_addVariant_65 : decode cX2_addVariant 65 = .ok (.ldc 76, 2) := by decide +kernel
theorem dX2_addVariant_67 : decode cX2_addVariant 67 = .ok (.invokespecial 62, 3) := by decide +kernel
theorem dX2_addVariant_70 : decode cX2_addVariant 70 = .ok (.athrow, 1) := by decide +kernel
theorem dX2_addVariant_71 : decode cX2_addVariant 71 = .ok (.aload_n 0, 1) := by decide +kernel
theorem dX2_addVariant_72 : decode cX2_addVariant 72 = .ok (.getfield 10, 3) := by decide +kernel
theorem dX2_addVariant_75 : decode cX2_addVariant 75 = .ok (.aload_n 0, 1) := by decide +kernel
theorem dX2_addVariant_76 : decode cX2_addVariant 76 = .ok (.getfield 10, 3) := by decide +kernel
theorem dX2_addVariant_79 : decode cX2_addVariant 79 = .ok (.getfield 78, 3) := by decide +kernel
theorem dX2_addVariant_82 : decode cX2_addVariant 82 = .ok (.iload_n 1, 1) := by decide +kernel
theorem dX2_addVariant_83 : decode cX2_addVariant 83 = .ok (.iaload, 1) := by decide +kernel
theorem dX2_addVariant_84 : decode cX2_addVariant 84 = .ok (.iload 5, 2) := by decide +kernel
theorem dX2_addVariant_86 : decode cX2_addVariant 86 = .ok (.iload_n 2, 1) := by decide +kernel
theorem dX2_addVariant_87 : decode cX2_addVariant 87 = .ok (.invokestatic 81, 3) := by decide +kernel
theorem dX2_addVariant_90 : decode cX2_addVariant 90 = .ok (.iload_n 3, 1) := by decide +kernel
theorem dX2_addVariant_91 : decode cX2_addVariant 91 = .ok (.invokestatic 81, 3) := by decide +kernel
theorem dX2_addVariant_94 : decode cX2_addVariant 94 = .ok (.iload 4, 2) := by decide +kernel
theorem dX2_addVariant_96 : decode cX2_addVariant 96 = .ok (.iload_n 1, 1) := by decide +kernel
theorem dX2_addVariant_97 : decode cX2_addVariant 97 = .ok (.invokevirtual 43, 3) := by decide +kernel
theorem dX2_addVariant_100 : decode cX2_addVariant 100 = .ok (.ireturn, 1) := by decide +kernel
set_option maxRecDepth 20000 in
theorem ggX2_turnPass_X2_needValley : GoodIn wsX2_turnPass wsX2_needValley := goodIn_ca (goodIn_r _ [8, 9, 10] (by decide +kernel) (by decide +kernel)) (goodIn_sub (fun _ h => List.mem_cons_of_mem _ (List.mem_append_right _ h)) (by decide +kernel))
set_option maxRecDepth 20000 in
theorem gX2_turnPass_X2_needValley : GoodIn wsX2_turnPass (va_wsS RX2 37 yX2_needValley wsX2_needValley) := goodIn_app (goodIn_of _ (by decide +kernel)) ggX2_turnPass_X2_needValley
set_option maxRecDepth 20000 in
theorem ggX2_turnPass_X1_turnWay : GoodIn wsX2_turnPass wsX1_turnWay := goodIn_r _ [15, 16, 17, 7, 18, 26, 27, 28, 29, 30, 31, 32] (by decide +kernel) (by decide +kernel)
set_option maxRecDepth 20000 in
theorem gX2_turnPass_X1_turnWay : GoodIn wsX2_turnPass (wsV RX2 90 RX1 yX1_turnWay wsX1_turnWay) := goodIn_app (goodIn_of _ (by decide +kernel)) ggX2_turnPass_X1_turnWay
set_option maxRecDepth 20000 in
theorem ggX2_turnPass_X2_has : GoodIn wsX2_turnPass wsX2_has := goodIn_r _ [21] (by decide +kernel) (by decide +kernel)
set_option maxRecDepth 20000 in
theorem gX2_turnPass_X2_has : GoodIn wsX2_turnPass (va_wsS RX2 54 yX2_has wsX2_has) := goodIn_app (goodIn_of _ (by decide +kernel)) ggX2_turnPass_X2_has
theorem dX2_turnPass_0 : decode cX2_turnPass 0 = .ok (.iload_n 1, 1) := by decide +kernel
theorem dX2_turnPass_1 : decode cX2_turnPass 1 = .ok (.invokestatic 37, 3) := by decide +kernel
theorem dX2_turnPass_4 : decode cX2_turnPass 4 = .ok (.iload_n 2, 1) := by decide +kernel
theorem dX2_turnPass_5 : decode cX2_turnPass 5 = .ok (.invokestatic 37, 3) := by decide +kernel
theorem dX2_turnPass_8 : decode cX2_turnPass 8 = .ok (.iload_n 1, 1) := by decide +kernel
theorem dX2_turnPass_9 : decode cX2_turnPass 9 = .ok (.iload_n 2, 1) := by decide +kernel
theorem dX2_turnPass_10 : decode cX2_turnPass 10 = .ok (.if_icmp .ne 13, 3) := by decide +kernel
theorem dX2_turnPass_13 : decode cX2_turnPass 13 = .ok (.new 85, 3) := by decide +kernel
theorem dX2_turnPass_16 : decode cX2_turnPass 16 = .ok (.dup, 1) := by decide +kernel
theorem dX2_turnPass_17 : decode cX2_turnPass 17 = .ok (.ldc 87, 2) := by decide +kernel
theorem dX2_turnPass_19 : decode cX2_turnPass 19 = .ok (.invokespecial 89, 3) := by decide +kernel
theorem dX2_turnPass_22 : decode cX2_turnPass 22 = .ok (.athrow, 1) := by decide +kernel
theorem dX2_turnPass_23 : decode cX2_turnPass 23 = .ok (.aload_n 0, 1) := by decide +kernel
theorem dX2_turnPass_24 : decode cX2_turnPass 24 = .ok (.getfield 19, 3) := by decide +kernel
theorem dX2_turnPass_27 : decode cX2_turnPass 27 = .ok (.iload_n 1, 1) := by decide +kernel
theorem dX2_turnPass_28 : decode cX2_turnPass 28 = .ok (.iload_n 2, 1) := by decide +kernel
theorem dX2_turnPass_29 : decode cX2_turnPass 29 = .ok (.invokevirtual 90, 3) := by decide +kernel
theorem dX2_turnPass_32 : decode cX2_turnPass 32 = .ok (.aload_n 0, 1) := by decide +kernel
theorem dX2_turnPass_33 : decode cX2_turnPass 33 = .ok (.getfield 19, 3) := by decide +kernel
theorem dX2_turnPass_36 : decode cX2_turnPass 36 = .ok (.getfield 94, 3) := by decide +kernel
theorem dX2_turnPass_39 : decode cX2_turnPass 39 = .ok (.iload_n 1, 1) := by decide +kernel
theorem dX2_turnPass_40 : decode cX2_turnPass 40 = .ok (.iaload, 1) := by decide +kernel
theorem dX2_turnPass_41 : decode cX2_turnPass 41 = .ok (.iload_n 2, 1) := by decide +kernel
theorem dX2_turnPass_42 : decode cX2_turnPass 42 = .ok (.invokestatic 54, 3) := by decide +kernel
theorem dX2_turnPass_45 : decode cX2_turnPass 45 = .ok (.ireturn, 1) := by decide +kernel
set_option maxRecDepth 20000 in
theorem ggX2_turnMoral_X2_needValley : GoodIn wsX2_turnMoral wsX2_needValley := goodIn_ca (goodIn_r _ [6, 7, 8] (by decide +kernel) (by decide +kernel)) (goodIn_sub (fun _ h => List.mem_cons_of_mem _ (List.mem_append_right _ h)) (by decide +kernel))
set_option maxRecDepth 20000 in
theorem gX2_turnMoral_X2_needValley : GoodIn wsX2_turnMoral (va_wsS RX2 37 yX2_needValley wsX2_needValley) := goodIn_app (goodIn_of _ (by decide +kernel)) ggX2_turnMoral_X2_needValley
set_option maxRecDepth 20000 in
theorem ggX2_turnMoral_X2_needMoral : GoodIn wsX2_turnMoral wsX2_needMoral := goodIn_ca (goodIn_r _ [11, 7, 8] (by decide +kernel) (by decide +kernel)) (goodIn_sub (fun _ h => List.mem_cons_of_mem _ (List.mem_append_right _ h)) (by decide +kernel))
set_option maxRecDepth 20000 in
theorem gX2_turnMoral_X2_needMoral : GoodIn wsX2_turnMoral (va_wsS RX2 30 yX2_needMoral wsX2_needMoral) := goodIn_app (goodIn_of _ (by decide +kernel)) ggX2_turnMoral_X2_needMoral
set_option maxRecDepth 20000 in
theorem ggX2_turnMoral_X2_turned : GoodIn wsX2_turnMoral wsX2_turned := goodIn_r _ [14] (by decide +kernel) (by decide +kernel)
set_option maxRecDepth 20000 in
theorem gX2_turnMoral_X2_turned : GoodIn wsX2_turnMoral (va_wsS RX2 81 yX2_turned wsX2_turned) := goodIn_app (goodIn_of _ (by decide +kernel)) ggX2_turnMoral_X2_turned
set_option maxRecDepth 20000 in
theorem ggX2_turnMoral_X2_has : GoodIn wsX2_turnMoral wsX2_has := goodIn_r _ [17] (by decide +kernel) (by decide +kernel)
set_option maxRecDepth 20000 in
theorem gX2_turnMoral_X2_has : GoodIn wsX2_turnMoral (va_wsS RX2 54 yX2_has wsX2_has) := goodIn_app (goodIn_of _ (by decide +kernel)) ggX2_turnMoral_X2_has
theorem dX2_turnMoral_0 : decode cX2_turnMoral 0 = .ok (.iload_n 1, 1) := by decide +kernel
theorem dX2_turnMoral_1 : decode cX2_turnMoral 1 = .ok (.invokestatic 37, 3) := by decide +kernel
theorem dX2_turnMoral_4 : decode cX2_turnMoral 4 = .ok (.iload_n 2, 1) := by decide +kernel
theorem dX2_turnMoral_5 : decode cX2_turnMoral 5 = .ok (.invokestatic 30, 3) := by decide +kernel
theorem dX2_turnMoral_8 : decode cX2_turnMoral 8 = .ok (.aload_n 0, 1) := by decide +kernel
theorem dX2_turnMoral_9 : decode cX2_turnMoral 9 = .ok (.getfield 19, 3) := by decide +kernel
theorem dX2_turnMoral_12 : decode cX2_turnMoral 12 = .ok (.getfield 97, 3) := by decide +kernel
theorem dX2_turnMoral_15 : decode cX2_turnMoral 15 = .ok (.iload_n 1, 1) := by decide +kernel
theorem dX2_turnMoral_16 : decode cX2_turnMoral 16 = .ok (.aload_n 0, 1) := by decide +kernel
theorem dX2_turnMoral_17 : decode cX2_turnMoral 17 = .ok (.getfield 19, 3) := by decide +kernel
theorem dX2_turnMoral_20 : decode cX2_turnMoral 20 = .ok (.getfield 97, 3) := by decide +kernel
theorem dX2_turnMoral_23 : decode cX2_turnMoral 23 = .ok (.iload_n 1, 1) := by decide +kernel
theorem dX2_turnMoral_24 : decode cX2_turnMoral 24 = .ok (.iaload, 1) := by decide +kernel
theorem dX2_turnMoral_25 : decode cX2_turnMoral 25 = .ok (.iload_n 2, 1) := by decide +kernel
theorem dX2_turnMoral_26 : decode cX2_turnMoral 26 = .ok (.invokestatic 81, 3) := by decide +kernel
theorem dX2_turnMoral_29 : decode cX2_turnMoral 29 = .ok (.iastore, 1) := by decide +kernel
theorem dX2_turnMoral_30 : decode cX2_turnMoral 30 = .ok (.aload_n 0, 1) := by decide +kernel
theorem dX2_turnMoral_31 : decode cX2_turnMoral 31 = .ok (.getfield 19, 3) := by decide +kernel
theorem dX2_turnMoral_34 : decode cX2_turnMoral 34 = .ok (.getfield 97, 3) := by decide +kernel
theorem dX2_turnMoral_37 : decode cX2_turnMoral 37 = .ok (.iload_n 1, 1) := by decide +kernel
theorem dX2_turnMoral_38 : decode cX2_turnMoral 38 = .ok (.iaload, 1) := by decide +kernel
theorem dX2_turnMoral_39 : decode cX2_turnMoral 39 = .ok (.iload_n 2, 1) := by decide +kernel
theorem dX2_turnMoral_40 : decode cX2_turnMoral 40 = .ok (.invokestatic 54, 3) := by decide +kernel
theorem dX2_turnMoral_43 : decode cX2_turnMoral 43 = .ok (.ireturn, 1) := by decide +kernel
set_option maxRecDepth 20000 in
theorem ggX2_turnBeast_X2_needValley : GoodIn wsX2_turnBeast wsX2_needValley := goodIn_ca (goodIn_r _ [6, 7, 8] (by decide +kernel) (by decide +kernel)) (goodIn_sub (fun _ h => List.mem_cons_of_mem _ (List.mem_append_right _ h)) (by decide +kernel))
set_option maxRecDepth 20000 in
theorem gX2_turnBeast_X2_needValley : GoodIn wsX2_turnBeast (va_wsS RX2 37 yX2_needValley wsX2_needValley) := goodIn_app (goodIn_of _ (by decide +kernel)) ggX2_turnBeast_X2_needValley
set_option maxRecDepth 20000 in
theorem ggX2_turnBeast_X2_needBeast : GoodIn wsX2_turnBeast wsX2_needBeast := goodIn_ca (goodIn_r _ [11, 7, 8] (by decide +kernel) (by decide +kernel)) (goodIn_sub (fun _ h => List.mem_cons_of_mem _ (List.mem_append_right _ h)) (by decide +kernel))
set_option maxRecDepth 20000 in
theorem gX2_turnBeast_X2_needBeast : GoodIn wsX2_turnBeast (va_wsS RX2 34 yX2_needBeast wsX2_needBeast) := goodIn_app (goodIn_of _ (by decide +kernel)) ggX2_turnBeast_X2_needBeast
set_option maxRecDepth 20000 in
theorem ggX2_turnBeast_X2_turned : GoodIn wsX2_turnBeast wsX2_turned := goodIn_r _ [14] (by decide +kernel) (by decide +kernel)
set_option maxRecDepth 20000 in
theorem gX2_turnBeast_X2_turned : GoodIn wsX2_turnBeast (va_wsS RX2 81 yX2_turned wsX2_turned) := goodIn_app (goodIn_of _ (by decide +kernel)) ggX2_turnBeast_X2_turned
set_option maxRecDepth 20000 in
theorem ggX2_turnBeast_X2_has : GoodIn wsX2_turnBeast wsX2_has := goodIn_r _ [17] (by decide +kernel) (by decide +kernel)
set_option maxRecDepth 20000 in
theorem gX2_turnBeast_X2_has : GoodIn wsX2_turnBeast (va_wsS RX2 54 yX2_has wsX2_has) := goodIn_app (goodIn_of _ (by decide +kernel)) ggX2_turnBeast_X2_has
theorem dX2_turnBeast_0 : decode cX2_turnBeast 0 = .ok (.iload_n 1, 1) := by decide +kernel
theorem dX2_turnBeast_1 : decode cX2_turnBeast 1 = .ok (.invokestatic 37, 3) := by decide +kernel
theorem dX2_turnBeast_4 : decode cX2_turnBeast 4 = .ok (.iload_n 2, 1) := by decide +kernel
theorem dX2_turnBeast_5 : decode cX2_turnBeast 5 = .ok (.invokestatic 34, 3) := by decide +kernel
theorem dX2_turnBeast_8 : decode cX2_turnBeast 8 = .ok (.aload_n 0, 1) := by decide +kernel
theorem dX2_turnBeast_9 : decode cX2_turnBeast 9 = .ok (.getfield 19, 3) := by decide +kernel
theorem dX2_turnBeast_12 : decode cX2_turnBeast 12 = .ok (.getfield 100, 3) := by decide +kernel
theorem dX2_turnBeast_15 : decode cX2_turnBeast 15 = .ok (.iload_n 1, 1) := by decide +kernel
theorem dX2_turnBeast_16 : decode cX2_turnBeast 16 = .ok (.aload_n 0, 1) := by decide +kernel
theorem dX2_turnBeast_17 : decode cX2_turnBeast 17 = .ok (.getfield 19, 3) := by decide +kernel
theorem dX2_turnBeast_20 : decode cX2_turnBeast 20 = .ok (.getfield 100, 3) := by decide +kernel
theorem dX2_turnBeast_23 : decode cX2_turnBeast 23 = .ok (.iload_n 1, 1) := by decide +kernel
theorem dX2_turnBeast_24 : decode cX2_turnBeast 24 = .ok (.iaload, 1) := by decide +kernel
theorem dX2_turnBeast_25 : decode cX2_turnBeast 25 = .ok (.iload_n 2, 1) := by decide +kernel
theorem dX2_turnBeast_26 : decode cX2_turnBeast 26 = .ok (.invokestatic 81, 3) := by decide +kernel
theorem dX2_turnBeast_29 : decode cX2_turnBeast 29 = .ok (.iastore, 1) := by decide +kernel
theorem dX2_turnBeast_30 : decode cX2_turnBeast 30 = .ok (.aload_n 0, 1) := by decide +kernel
theorem dX2_turnBeast_31 : decode cX2_turnBeast 31 = .ok (.getfield 19, 3) := by decide +kernel
theorem dX2_turnBeast_34 : decode cX2_turnBeast 34 = .ok (.getfield 100, 3) := by decide +kernel
theorem dX2_turnBeast_37 : decode cX2_turnBeast 37 = .ok (.iload_n 1, 1) := by decide +kernel
theorem dX2_turnBeast_38 : decode cX2_turnBeast 38 = .ok (.iaload, 1) := by decide +kernel
theorem dX2_turnBeast_39 : decode cX2_turnBeast 39 = .ok (.iload_n 2, 1) := by decide +kernel
theorem dX2_turnBeast_40 : decode cX2_turnBeast 40 = .ok (.invokestatic 54, 3) := by decide +kernel
theorem dX2_turnBeast_43 : decode cX2_turnBeast 43 = .ok (.ireturn, 1) := by decide +kernel
set_option maxRecDepth 20000 in
theorem ggX2_tell_X2_needFable : GoodIn wsX2_tell wsX2_needFable := goodIn_ca (goodIn_r _ [10, 11, 12, 5, 13, 43, 44, 45, 46, 54, 55, 56, 57, 58, 59, 60] (by decide +kernel) (by decide +kernel)) (goodIn_sub (fun _ h => List.mem_cons_of_mem _ (List.mem_append_right _ h)) (by decide +kernel))
set_option maxRecDepth 20000 in
theorem gX2_tell_X2_needFable : GoodIn wsX2_tell (wsV RX2 47 RX2 yX2_needFable wsX2_needFable) := goodIn_app (goodIn_of _ (by decide +kernel)) ggX2_tell_X2_needFable
set_option maxRecDepth 20000 in
theorem ggX2_tell_X2_needValley : GoodIn wsX2_tell wsX2_needValley := goodIn_ca (goodIn_r _ [16, 11, 12] (by decide +kernel) (by decide +kernel)) (goodIn_sub (fun _ h => List.mem_cons_of_mem _ (List.mem_append_right _ h)) (by decide +kernel))
set_option maxRecDepth 20000 in
theorem gX2_tell_X2_needValley : GoodIn wsX2_tell (va_wsS RX2 37 yX2_needValley wsX2_needValley) := goodIn_app (goodIn_of _ (by decide +kernel)) ggX2_tell_X2_needValley
set_option maxRecDepth 20000 in
theorem ggX2_tell_X2_has : GoodIn wsX2_tell wsX2_has := goodIn_r _ [19] (by decide +kernel) (by decide +kernel)
set_option maxRecDepth 20000 in
theorem gX2_tell_X2_has : GoodIn wsX2_tell (va_wsS RX2 54 yX2_has wsX2_has) := goodIn_app (goodIn_of _ (by decide +kernel)) ggX2_tell_X2_has
set_option maxRecDepth 20000 in
theorem ggX2_tell_X1_bans : GoodIn wsX2_tell wsX1_bans := goodIn_r _ [24, 25, 26, 27, 28, 18, 9, 19, 47, 48, 49, 50, 51, 52, 53, 54, 55, 56, 57, 58, 59, 60] (by decide +kernel) (by decide +kernel)
set_option maxRecDepth 20000 in
theorem gX2_tell_X1_bans : GoodIn wsX2_tell (wsV RX2 108 RX1 yX1_bans wsX1_bans) := goodIn_app (goodIn_of _ (by decide +kernel)) ggX2_tell_X1_bans
set_option maxRecDepth 20000 in
theorem ggX2_tell_X1_count : GoodIn wsX2_tell wsX1_count := goodIn_r _ [32, 33, 34, 9, 35, 36, 37, 38, 39, 40, 41, 42, 47, 48, 49, 50, 51, 52, 53] (by decide +kernel) (by decide +kernel)
set_option maxRecDepth 20000 in
theorem gX2_tell_X1_count : GoodIn wsX2_tell (wsV RX2 114 RX1 yX1_count wsX1_count) := goodIn_app (goodIn_of _ (by decide +kernel)) ggX2_tell_X1_count
