set_option maxRecDepth 20000 in
theorem ggX3_isSame_X2_fables : GoodIn wsX3_isSame wsX2_fables := goodIn_r _ [15, 16, 17, 212, 213, 214, 215, 216, 217, 218, 219, 220, 221, 222] (by decide +kernel) (by decide +kernel)
set_option maxRecDepth 20000 in
theorem gX3_isSame_X2_fables : GoodIn wsX3_isSame (wsV RX3 63 RX2 yX2_fables wsX2_fables) := goodIn_app (goodIn_of _ (by decide +kernel)) ggX3_isSame_X2_fables
set_option maxRecDepth 20000 in
theorem ggX3_isSame_X2_season : GoodIn wsX3_isSame wsX2_season := goodIn_r _ [21, 22, 212, 213, 214, 215] (by decide +kernel) (by decide +kernel)
set_option maxRecDepth 20000 in
theorem gX3_isSame_X2_season : GoodIn wsX3_isSame (wsV RX3 68 RX2 yX2_season wsX2_season) := goodIn_app (goodIn_of _ (by decide +kernel)) ggX3_isSame_X2_season
set_option maxRecDepth 20000 in
theorem ggX3_isSame_X2_tellings : GoodIn wsX3_isSame wsX2_tellings := goodIn_r _ [26, 27, 16, 28, 29, 30, 31, 32, 33, 34, 35, 36, 37, 38, 39, 40, 14, 41, 42, 43, 44, 45, 46, 47, 48, 212, 213, 214, 215, 216, 217, 218, 219, 220, 221, 222, 223, 224, 225, 226, 227, 228, 229] (by decide +kernel) (by decide +kernel)
set_option maxRecDepth 20000 in
theorem gX3_isSame_X2_tellings : GoodIn wsX3_isSame (wsV RX3 70 RX2 yX2_tellings wsX2_tellings) := goodIn_app (goodIn_of _ (by decide +kernel)) ggX3_isSame_X2_tellings
set_option maxRecDepth 20000 in
theorem ggX3_isSame_X3_tellings : GoodIn wsX3_isSame wsX3_tellings := goodIn_r _ [53, 1, 54, 55, 56, 52, 57, 7, 203, 204, 205, 206, 207, 208, 209, 210, 211] (by decide +kernel) (by decide +kernel)
set_option maxRecDepth 20000 in
theorem gX3_isSame_X3_tellings : GoodIn wsX3_isSame (wsV RX3 73 RX3 yX3_tellings wsX3_tellings) := goodIn_app (goodIn_of _ (by decide +kernel)) ggX3_isSame_X3_tellings
set_option maxRecDepth 20000 in
theorem ggX3_isSame_X2_silenced : GoodIn wsX3_isSame wsX2_silenced := goodIn_r _ [61, 27, 62, 212, 213, 214, 215, 223, 224, 225, 226, 227, 228, 229] (by decide +kernel) (by decide +kernel)
set_option maxRecDepth 20000 in
theorem gX3_isSame_X2_silenced : GoodIn wsX3_isSame (wsV RX3 74 RX2 yX2_silenced wsX2_silenced) := goodIn_app (goodIn_of _ (by decide +kernel)) ggX3_isSame_X2_silenced
set_option maxRecDepth 20000 in
theorem ggX3_isSame_X2_favouriteMoral : GoodIn wsX3_isSame wsX2_favouriteMoral := goodIn_r _ [66, 27, 16, 67, 68, 69, 31, 70, 33, 71, 34, 35, 36, 37, 38, 39, 40, 14, 41, 42, 43, 44, 45, 46, 47, 48, 212, 213, 214, 215, 216, 217, 218, 219, 220, 221, 222, 223, 224, 225, 226, 227, 228, 229] (by decide +kernel) (by decide +kernel)
set_option maxRecDepth 20000 in
theorem gX3_isSame_X2_favouriteMoral : GoodIn wsX3_isSame (wsV RX3 76 RX2 yX2_favouriteMoral wsX2_favouriteMoral) := goodIn_app (goodIn_of _ (by decide +kernel)) ggX3_isSame_X2_favouriteMoral
set_option maxRecDepth 20000 in
theorem ggX3_isSame_X3_favourite : GoodIn wsX3_isSame wsX3_favourite := goodIn_r _ [75, 76, 77, 78, 52, 79, 1, 5, 6, 54, 55, 56, 57, 7, 203, 204, 205, 206, 207, 208, 209, 210, 211] (by decide +kernel) (by decide +kernel)
set_option maxRecDepth 20000 in
theorem gX3_isSame_X3_favourite : GoodIn wsX3_isSame (wsV RX3 79 RX3 yX3_favourite wsX3_favourite) := goodIn_app (goodIn_of _ (by decide +kernel)) ggX3_isSame_X3_favourite
set_option maxRecDepth 20000 in
theorem ggX3_isSame_X2_favouriteBeast : GoodIn wsX3_isSame wsX2_favouriteBeast := goodIn_r _ [83, 27, 16, 84, 85, 86, 31, 87, 33, 88, 89, 14, 90, 34, 35, 36, 37, 38, 39, 40, 41, 42, 43, 44, 45, 46, 47, 48, 212, 213, 214, 215, 216, 217, 218, 219, 220, 221, 222, 223, 224, 225, 226, 227, 228, 229] (by decide +kernel) (by decide +kernel)
set_option maxRecDepth 20000 in
theorem gX3_isSame_X2_favouriteBeast : GoodIn wsX3_isSame (wsV RX3 83 RX2 yX2_favouriteBeast wsX2_favouriteBeast) := goodIn_app (goodIn_of _ (by decide +kernel)) ggX3_isSame_X2_favouriteBeast
set_option maxRecDepth 20000 in
theorem ggX3_isSame_X2_moralOf : GoodIn wsX3_isSame wsX2_moralOf := goodIn_ca (goodIn_r _ [94, 16, 95, 96, 97, 98, 14, 99, 100, 101, 17, 212, 213, 214, 215, 216, 217, 218, 219, 220, 221, 222] (by decide +kernel) (by decide +kernel)) (goodIn_sub (fun _ h => List.mem_cons_of_mem _ (List.mem_append_right _ h)) (by decide +kernel))
set_option maxRecDepth 20000 in
theorem gX3_isSame_X2_moralOf : GoodIn wsX3_isSame (wsV RX3 86 RX2 yX2_moralOf wsX2_moralOf) := goodIn_app (goodIn_of _ (by decide +kernel)) ggX3_isSame_X2_moralOf
set_option maxRecDepth 20000 in
theorem ggX3_isSame_X2_homeOf : GoodIn wsX3_isSame wsX2_homeOf := goodIn_ca (goodIn_r _ [105, 16, 106, 96, 97, 98, 14, 99, 100, 101, 17, 212, 213, 214, 215, 216, 217, 218, 219, 220, 221, 222] (by decide +kernel) (by decide +kernel)) (goodIn_sub (fun _ h => List.mem_cons_of_mem _ (List.mem_append_right _ h)) (by decide +kernel))
set_option maxRecDepth 20000 in
theorem gX3_isSame_X2_homeOf : GoodIn wsX3_isSame (wsV RX3 89 RX2 yX2_homeOf wsX2_homeOf) := goodIn_app (goodIn_of _ (by decide +kernel)) ggX3_isSame_X2_homeOf
set_option maxRecDepth 20000 in
theorem ggX3_isSame_X2_parentOf : GoodIn wsX3_isSame wsX2_parentOf := goodIn_ca (goodIn_r _ [110, 16, 111, 96, 97, 98, 14, 99, 100, 101, 17, 212, 213, 214, 215, 216, 217, 218, 219, 220, 221, 222] (by decide +kernel) (by decide +kernel)) (goodIn_sub (fun _ h => List.mem_cons_of_mem _ (List.mem_append_right _ h)) (by decide +kernel))
set_option maxRecDepth 20000 in
theorem gX3_isSame_X2_parentOf : GoodIn wsX3_isSame (wsV RX3 92 RX2 yX2_parentOf wsX2_parentOf) := goodIn_app (goodIn_of _ (by decide +kernel)) ggX3_isSame_X2_parentOf
set_option maxRecDepth 20000 in
theorem ggX3_isSame_X2_beastsOf : GoodIn wsX3_isSame wsX2_beastsOf := goodIn_ca (goodIn_r _ [115, 16, 116, 96, 97, 98, 14, 99, 100, 101, 17, 117, 40, 41, 42, 43, 44, 45, 46, 47, 48, 212, 213, 214, 215, 216, 217, 218, 219, 220, 221, 222] (by decide +kernel) (by decide +kernel)) (goodIn_sub (fun _ h => List.mem_cons_of_mem _ (List.mem_append_right _ h)) (by decide +kernel))
set_option maxRecDepth 20000 in
theorem gX3_isSame_X2_beastsOf : GoodIn wsX3_isSame (wsV RX3 95 RX2 yX2_beastsOf wsX2_beastsOf) := goodIn_app (goodIn_of _ (by decide +kernel)) ggX3_isSame_X2_beastsOf
set_option maxRecDepth 20000 in
theorem ggX3_isSame_X3_beastsOf : GoodIn wsX3_isSame wsX3_beastsOf := goodIn_r _ [121, 6, 203, 204, 205, 206, 207, 208, 209, 210, 211] (by decide +kernel) (by decide +kernel)
set_option maxRecDepth 20000 in
theorem gX3_isSame_X3_beastsOf : GoodIn wsX3_isSame (wsV RX3 98 RX3 yX3_beastsOf wsX3_beastsOf) := goodIn_app (goodIn_of _ (by decide +kernel)) ggX3_isSame_X3_beastsOf
set_option maxRecDepth 20000 in
theorem ggX3_isSame_X2_valleysOf : GoodIn wsX3_isSame wsX2_valleysOf := goodIn_ca (goodIn_r _ [125, 27, 96, 97, 98, 14, 99, 100, 101, 16, 17, 34, 35, 36, 37, 38, 39, 40, 41, 42, 43, 44, 45, 46, 47, 48, 212, 213, 214, 215, 216, 217, 218, 219, 220, 221, 222, 223, 224, 225, 226, 227, 228, 229] (by decide +kernel) (by decide +kernel)) (goodIn_sub (fun _ h => List.mem_cons_of_mem _ (List.mem_append_right _ h)) (by decide +kernel))
set_option maxRecDepth 20000 in
theorem gX3_isSame_X2_valleysOf : GoodIn wsX3_isSame (wsV RX3 99 RX2 yX2_valleysOf wsX2_valleysOf) := goodIn_app (goodIn_of _ (by decide +kernel)) ggX3_isSame_X2_valleysOf
set_option maxRecDepth 20000 in
theorem ggX3_isSame_X3_valleys : GoodIn wsX3_isSame wsX3_valleys := goodIn_r _ [57, 7, 203, 204, 205, 206, 207, 208, 209, 210, 211] (by decide +kernel) (by decide +kernel)
set_option maxRecDepth 20000 in
theorem gX3_isSame_X3_valleys : GoodIn wsX3_isSame (wsV RX3 56 RX3 yX3_valleys wsX3_valleys) := goodIn_app (goodIn_of _ (by decide +kernel)) ggX3_isSame_X3_valleys
set_option maxRecDepth 20000 in
theorem ggX3_isSame_X2_variantsOf : GoodIn wsX3_isSame wsX2_variantsOf := goodIn_ca (goodIn_r _ [129, 16, 130, 96, 97, 98, 14, 99, 100, 101, 17, 117, 40, 41, 42, 43, 44, 45, 46, 47, 48, 212, 213, 214, 215, 216, 217, 218, 219, 220, 221, 222] (by decide +kernel) (by decide +kernel)) (goodIn_sub (fun _ h => List.mem_cons_of_mem _ (List.mem_append_right _ h)) (by decide +kernel))
set_option maxRecDepth 20000 in
theorem gX3_isSame_X2_variantsOf : GoodIn wsX3_isSame (wsV RX3 102 RX2 yX2_variantsOf wsX2_variantsOf) := goodIn_app (goodIn_of _ (by decide +kernel)) ggX3_isSame_X2_variantsOf
set_option maxRecDepth 20000 in
theorem ggX3_isSame_X2_hasBeast : GoodIn wsX3_isSame wsX2_hasBeast := goodIn_ca (goodIn_r _ [134, 16, 116, 96, 97, 98, 14, 99, 100, 101, 17, 135, 136, 137, 138, 89, 90, 212, 213, 214, 215, 216, 217, 218, 219, 220, 221, 222] (by decide +kernel) (by decide +kernel)) (goodIn_sub (fun _ h => List.mem_cons_of_mem _ (List.mem_append_right _ h)) (by decide +kernel))
set_option maxRecDepth 20000 in
theorem gX3_isSame_X2_hasBeast : GoodIn wsX3_isSame (wsV RX3 105 RX2 yX2_hasBeast wsX2_hasBeast) := goodIn_app (goodIn_of _ (by decide +kernel)) ggX3_isSame_X2_hasBeast
set_option maxRecDepth 20000 in
theorem ggX3_isSame_X2_isTold : GoodIn wsX3_isSame wsX2_isTold := goodIn_ca (goodIn_r _ [142, 27, 143, 96, 97, 98, 14, 99, 100, 101, 16, 17, 144, 145, 146, 138, 89, 90, 212, 213, 214, 215, 223, 224, 225, 226, 227, 228, 229, 216, 217, 218, 219, 220, 221, 222] (by decide +kernel) (by decide +kernel)) (goodIn_sub (fun _ h => List.mem_cons_of_mem _ (List.mem_append_right _ h)) (by decide +kernel))
set_option maxRecDepth 20000 in
theorem gX3_isSame_X2_isTold : GoodIn wsX3_isSame (wsV RX3 108 RX2 yX2_isTold wsX2_isTold) := goodIn_app (goodIn_of _ (by decide +kernel)) ggX3_isSame_X2_isTold
set_option maxRecDepth 20000 in
theorem ggX3_isSame_X2_isBanned : GoodIn wsX3_isSame wsX2_isBanned := goodIn_ca (goodIn_r _ [150, 27, 16, 96, 97, 98, 14, 99, 100, 101, 17, 144, 145, 146, 151, 152, 153, 37, 154, 155, 156, 157, 158, 89, 90, 212, 213, 214, 215, 216, 217, 218, 219, 220, 221, 222, 223, 224, 225, 226, 227, 228, 229] (by decide +kernel) (by decide +kernel)) (goodIn_sub (fun _ h => List.mem_cons_of_mem _ (List.mem_append_right _ h)) (by decide +kernel))
set_option maxRecDepth 20000 in
theorem gX3_isSame_X2_isBanned : GoodIn wsX3_isSame (wsV RX3 111 RX2 yX2_isBanned wsX2_isBanned) := goodIn_app (goodIn_of _ (by decide +kernel)) ggX3_isSame_X2_isBanned
set_option maxRecDepth 20000 in
theorem ggX3_isSame_X3_isBanned : GoodIn wsX3_isSame wsX3_isBanned := goodIn_r _ [162, 8, 5, 6, 9, 203, 204, 205, 206, 207, 208, 209, 210, 211] (by decide +kernel) (by decide +kernel)
set_option maxRecDepth 20000 in
theorem gX3_isSame_X3_isBanned : GoodIn wsX3_isSame (wsV RX3 49 RX3 yX3_isBanned wsX3_isBanned) := goodIn_app (goodIn_of _ (by decide +kernel)) ggX3_isSame_X3_isBanned
set_option maxRecDepth 20000 in
theorem ggX3_isSame_X2_fablesWithMoral : GoodIn wsX3_isSame wsX2_fablesWithMoral := goodIn_ca (goodIn_r _ [166, 16, 167, 168, 14, 169, 100, 101, 67, 68, 69, 31, 70, 33, 71, 117, 40, 41, 42, 43, 44, 45, 46, 47, 48, 212, 213, 214, 215, 216, 217, 218, 219, 220, 221, 222] (by decide +kernel) (by decide +kernel)) (goodIn_sub (fun _ h => List.mem_cons_of_mem _ (List.mem_append_right _ h)) (by decide +kernel))
set_option maxRecDepth 20000 in
theorem gX3_isSame_X2_fablesWithMoral : GoodIn wsX3_isSame (wsV RX3 112 RX2 yX2_fablesWithMoral wsX2_fablesWithMoral) := goodIn_app (goodIn_of _ (by decide +kernel)) ggX3_isSame_X2_fablesWithMoral
set_option maxRecDepth 20000 in
theorem ggX3_isSame_X2_fablesWithBeast : GoodIn wsX3_isSame wsX2_fablesWithBeast := goodIn_ca (goodIn_r _ [173, 16, 135, 136, 14, 137, 100, 101, 84, 85, 86, 31, 87, 33, 88, 89, 90, 117, 40, 41, 42, 43, 44, 45, 46, 47, 48, 212, 213, 214, 215, 216, 217, 218, 219, 220, 221, 222] (by decide +kernel) (by decide +kernel)) (goodIn_sub (fun _ h => List.mem_cons_of_mem _ (List.mem_append_right _ h)) (by decide +kernel))
set_option maxRecDepth 20000 in
theorem gX3_isSame_X2_fablesWithBeast : GoodIn wsX3_isSame (wsV RX3 115 RX2 yX2_fablesWithBeast wsX2_fablesWithBeast) := goodIn_app (goodIn_of _ (by decide +kernel)) ggX3_isSame_X2_fablesWithBeast
set_option maxRecDepth 20000 in
theorem ggX3_isSame_X2_toldIn : GoodIn wsX3_isSame wsX2_toldIn := goodIn_ca (goodIn_r _ [177, 27, 143, 144, 145, 14, 146, 100, 101, 117, 40, 41, 42, 43, 44, 45, 46, 47, 48, 212, 213, 214, 215, 223, 224, 225, 226, 227, 228, 229] (by decide +kernel) (by decide +kernel)) (goodIn_sub (fun _ h => List.mem_cons_of_mem _ (List.mem_append_right _ h)) (by decide +kernel))
set_option maxRecDepth 20000 in
theorem gX3_isSame_X2_toldIn : GoodIn wsX3_isSame (wsV RX3 118 RX2 yX2_toldIn wsX2_toldIn) := goodIn_app (goodIn_of _ (by decide +kernel)) ggX3_isSame_X2_toldIn
set_option maxRecDepth 20000 in
theorem ggX3_isSame_X2_allowedIn : GoodIn wsX3_isSame wsX2_allowedIn := goodIn_ca (goodIn_r _ [181, 27, 16, 144, 145, 14, 146, 100, 101, 182, 183, 184, 37, 185, 186, 187, 152, 153, 154, 155, 156, 157, 158, 89, 90, 117, 40, 41, 42, 43, 44, 45, 46, 47, 48, 212, 213, 214, 215, 216, 217, 218, 219, 220, 221, 222, 223, 224, 225, 226, 227, 228, 229] (by decide +kernel) (by decide +kernel)) (goodIn_sub (fun _ h => List.mem_cons_of_mem _ (List.mem_append_right _ h)) (by decide +kernel))
set_option maxRecDepth 20000 in
theorem gX3_isSame_X2_allowedIn : GoodIn wsX3_isSame (wsV RX3 121 RX2 yX2_allowedIn wsX2_allowedIn) := goodIn_app (goodIn_of _ (by decide +kernel)) ggX3_isSame_X2_allowedIn
set_option maxRecDepth 20000 in
theorem ggX3_isSame_X2_bansOf : GoodIn wsX3_isSame wsX2_bansOf := goodIn_ca (goodIn_r _ [191, 27, 192, 193, 144, 145, 14, 146, 100, 101, 117, 40, 41, 42, 43, 44, 45, 46, 47, 48, 212, 213, 214, 215, 223, 224, 225, 226, 227, 228, 229] (by decide +kernel) (by decide +kernel)) (goodIn_sub (fun _ h => List.mem_cons_of_mem _ (List.mem_append_right _ h)) (by decide +kernel))
set_option maxRecDepth 20000 in
theorem gX3_isSame_X2_bansOf : GoodIn wsX3_isSame (wsV RX3 124 RX2 yX2_bansOf wsX2_bansOf) := goodIn_app (goodIn_of _ (by decide +kernel)) ggX3_isSame_X2_bansOf
set_option maxRecDepth 20000 in
theorem ggX3_isSame_X2_isOpen : GoodIn wsX3_isSame wsX2_isOpen := goodIn_ca (goodIn_r _ [197, 27, 198, 144, 145, 14, 146, 100, 101, 138, 89, 90, 212, 213, 214, 215, 223, 224, 225, 226, 227, 228, 229] (by decide +kernel) (by decide +kernel)) (goodIn_sub (fun _ h => List.mem_cons_of_mem _ (List.mem_append_right _ h)) (by decide +kernel))
set_option maxRecDepth 20000 in
theorem gX3_isSame_X2_isOpen : GoodIn wsX3_isSame (wsV RX3 127 RX2 yX2_isOpen wsX2_isOpen) := goodIn_app (goodIn_of _ (by decide +kernel)) ggX3_isSame_X2_isOpen
set_option maxRecDepth 20000 in
theorem ggX3_isSame_X2_meanBeasts : GoodIn wsX3_isSame wsX2_meanBeasts := goodIn_r _ [202, 16, 17, 116, 117, 40, 14, 41, 42, 43, 44, 45, 46, 47, 48, 212, 213, 214, 215, 216, 217, 218, 219, 220, 221, 222] (by decide +kernel) (by decide +kernel)
set_option maxRecDepth 20000 in
theorem gX3_isSame_X2_meanBeasts : GoodIn wsX3_isSame (wsV RX3 130 RX2 yX2_meanBeasts wsX2_meanBeasts) := goodIn_app (goodIn_of _ (by decide +kernel)) ggX3_isSame_X2_meanBeasts
theorem dX3_isSame_0 : decode cX3_isSame 0 = .ok (.aload_n 1, 1) := by decide +kernel
theorem dX3_isSame_1 : decode cX3_isSame 1 = .ok (.invokevirtual 63, 3) := by decide +kernel
theorem dX3_isSame_4 : decode cX3_isSame 4 = .ok (.aload_n 0, 1) := by decide +kernel
theorem dX3_isSame_5 : decode cX3_isSame 5 = .ok (.getfield 35, 3) := by decide +kernel
theorem dX3_isSame_8 : decode cX3_isSame 8 = .ok (.if_icmp .ne 65, 3) := by decide +kernel
theorem dX3_isSame_11 : decode cX3_isSame 11 = .ok (.aload_n 1, 1) := by decide +kernel
theorem dX3_isSame_12 : decode cX3_isSame 12 = .ok (.invokevirtual 68, 3) := by decide +kernel
theorem dX3_isSame_15 : decode cX3_isSame 15 = .ok (.aload_n 0, 1) := by decide +kernel
theorem dX3_isSame_16 : decode cX3_isSame 16 = .ok (.getfield 39, 3) := by decide +kernel
theorem dX3_isSame_19 : decode cX3_isSame 19 = .ok (.if_icmp .ne 54, 3) := by decide +kernel
theorem dX3_isSame_22 : decode cX3_isSame 22 = .ok (.aload_n 1, 1) := by decide +kernel
theorem dX3_isSame_23 : decode cX3_isSame 23 = .ok (.invokevirtual 70, 3) := by decide +kernel
theorem dX3_isSame_26 : decode cX3_isSame 26 = .ok (.aload_n 0, 1) := by decide +kernel
theorem dX3_isSame_27 : decode cX3_isSame 27 = .ok (.invokevirtual 73, 3) := by decide +kernel
theorem dX3_isSame_30 : decode cX3_isSame 30 = .ok (.if_icmp .ne 43, 3) := by decide +kernel
theorem dX3_isSame_33 : decode cX3_isSame 33 = .ok (.aload_n 1, 1) := by decide +kernel
theorem dX3_isSame_34 : decode cX3_isSame 34 = .ok (.invokevirtual 74, 3) := by decide +kernel
theorem dX3_isSame_37 : decode cX3_isSame 37 = .ok (.aload_n 0, 1) := by decide +kernel
theorem dX3_isSame_38 : decode cX3_isSame 38 = .ok (.getfield 42, 3) := by decide +kernel
theorem dX3_isSame_41 : decode cX3_isSame 41 = .ok (.if_icmp .ne 32, 3) := by decide +kernel
theorem dX3_isSame_44 : decode cX3_isSame 44 = .ok (.aload_n 1, 1) := by decide +kernel
theorem dX3_isSame_45 : decode cX3_isSame 45 = .ok (.invokevirtual 76, 3) := by decide +kernel
theorem dX3_isSame_48 : decode cX3_isSame 48 = .ok (.aload_n 0, 1) := by decide +kernel
theorem dX3_isSame_49 : decode cX3_isSame 49 = .ok (.iconst 0, 1) := by decide +kernel
theorem dX3_isSame_50 : decode cX3_isSame 50 = .ok (.bipush 10, 2) := by decide +kernel
theorem dX3_isSame_52 : decode cX3_isSame 52 = .ok (.invokevirtual 79, 3) := by decide +kernel
theorem dX3_isSame_55 : decode cX3_isSame 55 = .ok (.if_icmp .ne 18, 3) := by decide +kernel
theorem dX3_isSame_58 : decode cX3_isSame 58 = .ok (.aload_n 1, 1) := by decide +kernel
theorem dX3_isSame_59 : decode cX3_isSame 59 = .ok (.invokevirtual 83, 3) := by decide +kernel
theorem dX3_isSame_62 : decode cX3_isSame 62 = .ok (.aload_n 0, 1) := by decide +kernel
theorem dX3_isSame_63 : decode cX3_isSame 63 = .ok (.bipush 10, 2) := by decide +kernel
theorem dX3_isSame_65 : decode cX3_isSame 65 = .ok (.bipush 22, 2) := by decide +kernel
theorem dX3_isSame_67 : decode cX3_isSame 67 = .ok (.invokevirtual 79, 3) := by decide +kernel
theorem dX3_isSame_70 : decode cX3_isSame 70 = .ok (.if_icmp .eq 5, 3) := by decide +kernel
theorem dX3_isSame_73 : decode cX3_isSame 73 = .ok (.iconst 0, 1) := by decide +kernel
theorem dX3_isSame_74 : decode cX3_isSame 74 = .ok (.ireturn, 1) := by decide +kernel
theorem dX3_isSame_75 : decode cX3_isSame 75 = .ok (.iconst 0, 1) := by decide +kernel
theorem dX3_isSame_76 : decode cX3_isSame 76 = .ok (.istore_n 2, 1) := by decide +kernel
theorem dX3_isSame_77 : decode cX3_isSame 77 = .ok (.bipush 22, 2) := by decide +kernel
theorem dX3_isSame_79 : decode cX3_isSame 79 = .ok (.newarray .int, 2) := by decide +kernel
theorem dX3_isSame_81 : decode cX3_isSame 81 = .ok (.astore_n 3, 1) := by decide +kernel
theorem dX3_isSame_82 : decode cX3_isSame 82 = .ok (.iconst 0, 1) := by decide +kernel
theorem dX3_isSame_83 : decode cX3_isSame 83 = .ok (.istore 4, 2) := by decide +kernel
theorem dX3_isSame_85 : decode cX3_isSame 85 = .ok (.iload 4, 2) := by decide +kernel
theorem dX3_isSame_87 : decode cX3_isSame 87 = .ok (.aload_n 0, 1) := by decide +kernel
theorem dX3_isSame_88 : decode cX3_isSame 88 = .ok (.getfield 35, 3) := by decide +kernel
theorem dX3_isSame_91 : decode cX3_isSame 91 = .ok (.if_icmp .ge 300, 3) := by decide +kernel
theorem dX3_isSame_94 : decode cX3_isSame 94 = .ok (.iconst 0, 1) := by decide +kernel
theorem dX3_isSame_95 : decode cX3_isSame 95 = .ok (.istore 5, 2) := by decide +kernel
theorem dX3_isSame_97 : decode cX3_isSame 97 = .ok (.iconst 0, 1) := by decide +kernel
theorem dX3_isSame_98 : decode cX3_isSame 98 = .ok (.istore 6, 2) := by decide +kernel
theorem dX3_isSame_100 : decode cX3_isSame 100 = .ok (.iload 6, 2) := by decide +kernel
theorem dX3_isSame_102 : decode cX3_isSame 102 = .ok (.aload_n 0, 1) := by decide +kernel
theorem dX3_isSame_103 : decode cX3_isSame 103 = .ok (.getfield 35, 3) := by decide +kernel
theorem dX3_isSame_106 : decode cX3_isSame 106 = .ok (.if_icmp .ge 33, 3) := by decide +kernel
theorem dX3_isSame_109 : decode cX3_isSame 109 = .ok (.iload 5, 2) := by decide +kernel
theorem dX3_isSame_111 : decode cX3_isSame 111 = .ok (.aload_n 0, 1) := by decide +kernel
theorem dX3_isSame_112 : decode cX3_isSame 112 = .ok (.getfield 9, 3) := by decide +kernel
theorem dX3_isSame_115 : decode cX3_isSame 115 = .ok (.iload 6, 2) := by decide +kernel
theorem dX3_isSame_117 : decode cX3_isSame 117 = .ok (.aaload, 1) := by decide +kernel
theorem dX3_isSame_118 : decode cX3_isSame 118 = .ok (.iconst 2, 1) := by decide +kernel
theorem dX3_isSame_119 : decode cX3_isSame 119 = .ok (.iaload, 1) := by decide +kernel
theorem dX3_isSame_120 : decode cX3_isSame 120 = .ok (.iload 4, 2) := by decide +kernel
theorem dX3_isSame_122 : decode cX3_isSame 122 = .ok (.if_icmp .ne 7, 3) := by decide +kernel
theorem dX3_isSame_125 : decode cX3_isSame 125 = .ok (.iconst 1, 1) := by decide +kernel
theorem dX3_isSame_126 : decode cX3_isSame 126 = .ok (.goto 4, 3) := by decide +kernel
theorem dX3_isSame_129 : decode cX3_isSame 129 = .ok (.iconst 0, 1) := by decide +kernel
theorem dX3_isSame_130 : decode cX3_isSame 130 = .ok (.iadd, 1) := by decide +kernel
theorem dX3_isSame_131 : decode cX3_isSame 131 = .ok (.istore 5, 2) := by decide +kernel
theorem dX3_isSame_133 : decode cX3_isSame 133 = .ok (.iinc 6 1, 3) := by decide +kernel
theorem dX3_isSame_136 : decode cX3_isSame 136 = .ok (.goto (-36), 3) := by decide +kernel
theorem dX3_isSame_139 : decode cX3_isSame 139 = .ok (.aload_n 1, 1) := by decide +kernel
theorem dX3_isSame_140 : decode cX3_isSame 140 = .ok (.iload 4, 2) := by decide +kernel
theorem dX3_isSame_142 : decode cX3_isSame 142 = .ok (.invokevirtual 86, 3) := by decide +kernel
theorem dX3_isSame_145 : decode cX3_isSame 145 = .ok (.aload_n 0, 1) := by decide +kernel
theorem dX3_isSame_146 : decode cX3_isSame 146 = .ok (.getfield 9, 3) := by decide +kernel
theorem dX3_isSame_149 : decode cX3_isSame 149 = .ok (.iload 4, 2) := by decide +kernel
theorem dX3_isSame_151 : decode cX3_isSame 151 = .ok (.aaload, 1) := by decide +kernel
theorem dX3_isSame_152 : decode cX3_isSame 152 = .ok (.iconst 0, 1) := by decide +kernel
theorem dX3_isSame_153 : decode cX3_isSame 153 = .ok (.iaload, 1) := by decide +kernel
theorem dX3_isSame_154 : decode cX3_isSame 154 = .ok (.if_icmp .ne 80, 3) := by decide +kernel
theorem dX3_isSame_157 : decode cX3_isSame 157 = .ok (.aload_n 1, 1) := by decide +kernel
theorem dX3_isSame_158 : decode cX3_isSame 158 = .ok (.iload 4, 2) := by decide +kernel
theorem dX3_isSame_160 : decode cX3_isSame 160 = .ok (.invokevirtual 89, 3) := by decide +kernel
theorem dX3_isSame_163 : decode cX3_isSame 163 = .ok (.aload_n 0, 1) := by decide +kernel
theorem dX3_isSame_164 : decode cX3_isSame 164 = .ok (.getfield 9, 3) := by decide +kernel
theorem dX3_isSame_167 : decode cX3_isSame 167 = .ok (.iload 4, 2) := by decide +kernel
theorem dX3_isSame_169 : decode cX3_isSame 169 = .ok (.aaload, 1) := by decide +kernel
theorem dX3_isSame_170 : decode cX3_isSame 170 = .ok (.iconst 1, 1) := by decide +kernel
theorem dX3_isSame_171 : decode cX3_isSame 171 = .ok (.iaload, 1) := by decide +kernel
theorem dX3_isSame_172 : decode cX3_isSame 172 = .ok (.if_icmp .ne 62, 3) := by decide +kernel
theorem dX3_isSame_175 : decode cX3_isSame 175 = .ok (.aload_n 1, 1) := by decide +kernel
theorem dX3_isSame_176 : decode cX3_isSame 176 = .ok (.iload 4, 2) := by decide +kernel
theorem dX3_isSame_178 : decode cX3_isSame 178 = .ok (.invokevirtual 92, 3) := by decide +kernel
theorem dX3_isSame_181 : decode cX3_isSame 181 = .ok (.aload_n 0, 1) := by decide +kernel
theorem dX3_isSame_182 : decode cX3_isSame 182 = .ok (.getfield 9, 3) := by decide +kernel
theorem dX3_isSame_185 : decode cX3_isSame 185 = .ok (.iload 4, 2) := by decide +kernel
theorem dX3_isSame_187 : decode cX3_isSame 187 = .ok (.aaload, 1) := by decide +kernel
theorem dX3_isSame_188 : decode cX3_isSame 188 = .ok (.iconst 2, 1) := by decide +kernel
theorem dX3_isSame_189 : decode cX3_isSame 189 = .ok (.iaload, 1) := by decide +kernel
theorem dX3_isSame_190 : decode cX3_isSame 190 = .ok (.if_icmp .ne 44, 3) := by decide +kernel
theorem dX3_isSame_193 : decode cX3_isSame 193 = .ok (.aload_n 1, 1) := by decide +kernel
theorem dX3_isSame_194 : decode cX3_isSame 194 = .ok (.iload 4, 2) := by decide +kernel
theorem dX3_isSame_196 : decode cX3_isSame 196 = .ok (.invokevirtual 95, 3) := by decide +kernel
theorem dX3_isSame_199 : decode cX3_isSame 199 = .ok (.aload_n 0, 1) := by decide +kernel
theorem dX3_isSame_200 : decode cX3_isSame 200 = .ok (.iload 4, 2) := by decide +kernel
theorem dX3_isSame_202 : decode cX3_isSame 202 = .ok (.invokevirtual 98, 3) := by decide +kernel
theorem dX3_isSame_205 : decode cX3_isSame 205 = .ok (.if_icmp .ne 29, 3) := by decide +kernel
theorem dX3_isSame_208 : decode cX3_isSame 208 = .ok (.aload_n 1, 1) := by decide +kernel
theorem dX3_isSame_209 : decode cX3_isSame 209 = .ok (.iload 4, 2) := by decide +kernel
theorem dX3_isSame_211 : decode cX3_isSame 211 = .ok (.invokevirtual 99, 3) := by decide +kernel
theorem dX3_isSame_214 : decode cX3_isSame 214 = .ok (.aload_n 0, 1) := by decide +kernel
theorem dX3_isSame_215 : decode cX3_isSame 215 = .ok (.iload 4, 2) := by decide +kernel
theorem dX3_isSame_217 : decode cX3_isSame 217 = .ok (.invokevirtual 56, 3) := by decide +kernel
theorem dX3_isSame_220 : decode cX3_isSame 220 = .ok (.if_icmp .ne 14, 3) := by decide +kernel
theorem dX3_isSame_223 : decode cX3_isSame 223 = .ok (.aload_n 1, 1) := by decide +kernel
theorem dX3_isSame_224 : decode cX3_isSame 224 = .ok (.iload 4, 2) := by decide +kernel
theorem dX3_isSame_226 : decode cX3_isSame 226 = .ok (.invokevirtual 102, 3) := by decide +kernel
theorem dX3_isSame_229 : decode cX3_isSame 229 = .ok (.iload 5, 2) := by decide +kernel
theorem dX3_isSame_231 : decode cX3_isSame 231 = .ok (.if_icmp .eq 5, 3) := by decide +kernel
theorem dX3_isSame_234 : decode cX3_isSame 234 = .ok (.iconst 0, 1) := by decide +kernel
theorem dX3_isSame_235 : decode cX3_isSame 235 = .ok (.ireturn, 1) := by decide +kernel
theorem dX3_isSame_236 : decode cX3_isSame 236 = .ok (.iconst 0, 1) := by decide +kernel
theorem dX3_isSame_237 : decode cX3_isSame 237 = .ok (.istore 6, 2) := by decide +kernel
theorem dX3_isSame_239 : decode cX3_isSame 239 = .ok (.iload 6, 2) := by decide +kernel
theorem dX3_isSame_241 : decode cX3_isSame 241 = .ok (.bipush 12, 2) := by decide +kernel
theorem dX3_isSame_243 : decode cX3_isSame 243 = .ok (.if_icmp .ge 60, 3) := by decide +kernel
theorem dX3_isSame_246 : decode cX3_isSame 246 = .ok (.aload_n 1, 1) := by decide +kernel
theorem dX3_isSame_247 : decode cX3_isSame 247 = .ok (.iload 4, 2) := by decide +kernel
theorem dX3_isSame_249 : decode cX3_isSame 249 = .ok (.iload 6, 2) := by decide +kernel
theorem dX3_isSame_251 : decode cX3_isSame 251 = .ok (.invokevirtual 105, 3) := by decide +kernel
theorem dX3_isSame_254 : decode cX3_isSame 254 = .ok (.aload_n 0, 1) := by decide +kernel
theorem dX3_isSame_255 : decode cX3_isSame 255 = .ok (.getfield 17, 3) := by decide +kernel
theorem dX3_isSame_258 : decode cX3_isSame 258 = .ok (.iload 4, 2) := by decide +kernel
theorem dX3_isSame_260 : decode cX3_isSame 260 = .ok (.aaload, 1) := by decide +kernel
theorem dX3_isSame_261 : decode cX3_isSame 261 = .ok (.iload 6, 2) := by decide +kernel
theorem dX3_isSame_263 : decode cX3_isSame 263 = .ok (.baload, 1) := by decide +kernel
theorem dX3_isSame_264 : decode cX3_isSame 264 = .ok (.if_icmp .eq 5, 3) := by decide +kernel
theorem dX3_isSame_267 : decode cX3_isSame 267 = .ok (.iconst 0, 1) := by decide +kernel
theorem dX3_isSame_268 : decode cX3_isSame 268 = .ok (.ireturn, 1) := by decide +kernel
theorem dX3_isSame_269 : decode cX3_isSame 269 = .ok (.aload_n 3, 1) := by decide +kernel
theorem dX3_isSame_270 : decode cX3_isSame 270 = .ok (.bipush 10, 2) := by decide +kernel
theorem dX3_isSame_272 : decode cX3_isSame 272 = .ok (.iload 6, 2) := by decide +kernel
theorem dX3_isSame_274 : decode cX3_isSame 274 = .ok (.iadd, 1) := by decide +kernel
theorem dX3_isSame_275 : decode cX3_isSame 275 = .ok (.dup2, 1) := by decide +kernel
theorem dX3_isSame_276 : decode cX3_isSame 276 = .ok (.iaload, 1) := by decide +kernel
theorem dX3_isSame_277 : decode cX3_isSame 277 = .ok (.aload_n 0, 1) := by decide +kernel
theorem dX3_isSame_278 : decode cX3_isSame 278 = .ok (.getfield 17, 3) := by decide +kernel
theorem dX3_isSame_281 : decode cX3_isSame 281 = .ok (.iload 4, 2) := by decide +kernel
theorem dX3_isSame_283 : decode cX3_isSame 283 = .ok (.aaload, 1) := by decide +kernel
theorem dX3_isSame_284 : decode cX3_isSame 284 = .ok (.iload 6, 2) := by decide +kernel
theorem dX3_isSame_286 : decode cX3_isSame 286 = .ok (.baload, 1) := by decide +kernel
theorem dX3_isSame_287 : decode cX3_isSame 287 = .ok (.ifCond .eq 7, 3) := by decide +kernel
theorem dX3_isSame_290 : decode cX3_isSame 290 = .ok (.iconst 1, 1) := by decide +kernel
theorem dX3_isSame_291 : decode cX3_isSame 291 = .ok (.goto 4, 3) := by decide +kernel
theorem dX3_isSame_294 : decode cX3_isSame 294 = .ok (.iconst 0, 1) := by decide +kernel
theorem dX3_isSame_295 : decode cX3_isSame 295 = .ok (.iadd, 1) := by decide +kernel
theorem dX3_isSame_296 : decode cX3_isSame 296 = .ok (.iastore, 1) := by decide +kernel
theorem dX3_isSame_297 : decode cX3_isSame 297 = .ok (.iinc 6 1, 3) := by decide +kernel
theorem dX3_isSame_300 : decode cX3_isSame 300 = .ok (.goto (-61), 3) := by decide +kernel
theorem dX3_isSame_303 : decode cX3_isSame 303 = .ok (.iconst 0, 1) := by decide +kernel
theorem dX3_isSame_304 : decode cX3_isSame 304 = .ok (.istore 6, 2) := by decide +kernel
theorem dX3_isSame_306 : decode cX3_isSame 306 = .ok (.iload 6, 2) := by decide +kernel
theorem dX3_isSame_308 : decode cX3_isSame 308 = .ok (.bipush 6, 2) := by decide +kernel
theorem dX3_isSame_310 : decode cX3_isSame 310 = .ok (.if_icmp .ge 51, 3) := by decide +kernel
theorem dX3_isSame_313 : decode cX3_isSame 313 = .ok (.aload_n 1, 1) := by decide +kernel
theorem dX3_isSame_314 : decode cX3_isSame 314 = .ok (.iload 4, 2) := by decide +kernel
theorem dX3_isSame_316 : decode cX3_isSame 316 = .ok (.iload 6, 2) := by decide +kernel
theorem dX3_isSame_318 : decode cX3_isSame 318 = .ok (.invokevirtual 108, 3) := by decide +kernel
theorem dX3_isSame_321 : decode cX3_isSame 321 = .ok (.aload_n 0, 1) := by decide +kernel
theorem dX3_isSame_322 : decode cX3_isSame 322 = .ok (.getfield 22, 3) := by decide +kernel
theorem dX3_isSame_325 : decode cX3_isSame 325 = .ok (.iload 4, 2) := by decide +kernel
theorem dX3_isSame_327 : decode cX3_isSame 327 = .ok (.aaload, 1) := by decide +kernel
theorem dX3_isSame_328 : decode cX3_isSame 328 = .ok (.iload 6, 2) := by decide +kernel
theorem dX3_isSame_330 : decode cX3_isSame 330 = .ok (.baload, 1) := by decide +kernel
theorem dX3_isSame_331 : decode cX3_isSame 331 = .ok (.if_icmp .ne 22, 3) := by decide +kernel
theorem dX3_isSame_334 : decode cX3_isSame 334 = .ok (.aload_n 1, 1) := by decide +kernel
theorem dX3_isSame_335 : decode cX3_isSame 335 = .ok (.iload 4, 2) := by decide +kernel
theorem dX3_isSame_337 : decode cX3_isSame 337 = .ok (.iload 6, 2) := by decide +kernel
theorem dX3_isSame_339 : decode cX3_isSame 339 = .ok (.invokevirtual 111, 3) := by decide +kernel
theorem dX3_isSame_342 : decode cX3_isSame 342 = .ok (.aload_n 0, 1) := by decide +kernel
theorem dX3_isSame_343 : decode cX3_isSame 343 = .ok (.iload 4, 2) := by decide +kernel
theorem dX3_isSame_345 : decode cX3_isSame 345 = .ok (.iload 6, 2) := by decide +kernel
theorem dX3_isSame_347 : decode cX3_isSame 347 = .ok (.invokevirtual 49, 3) := by decide +kernel
theorem dX3_isSame_350 : decode cX3_isSame 350 = .ok (.if_icmp .eq 5, 3) := by decide +kernel
theorem dX3_isSame_353 : decode cX3_isSame 353 = .ok (.iconst 0, 1) := by decide +kernel
theorem dX3_isSame_354 : decode cX3_isSame 354 = .ok (.ireturn, 1) := by decide +kernel
theorem dX3_isSame_355 : decode cX3_isSame 355 = .ok (.iinc 6 1, 3) := by decide +kernel
theorem dX3_isSame_358 : decode cX3_isSame 358 = .ok (.goto (-52), 3) := by decide +kernel
theorem dX3_isSame_361 : decode cX3_isSame 361 = .ok (.iload_n 2, 1) := by decide +kernel
theorem dX3_isSame_362 : decode cX3_isSame 362 = .ok (.aload_n 0, 1) := by decide +kernel
theorem dX3_isSame_363 : decode cX3_isSame 363 = .ok (.iload 4, 2) := by decide +kernel
theorem dX3_isSame_365 : decode cX3_isSame 365 = .ok (.invokevirtual 98, 3) := by decide +kernel
theorem dX3_isSame_368 : decode cX3_isSame 368 = .ok (.iadd, 1) := by decide +kernel
theorem dX3_isSame_369 : decode cX3_isSame 369 = .ok (.istore_n 2, 1) := by decide +kernel
theorem dX3_isSame_370 : decode cX3_isSame 370 = .ok (.aload_n 3, 1) := by decide +kernel
theorem dX3_isSame_371 : decode cX3_isSame 371 = .ok (.aload_n 0, 1) := by decide +kernel
theorem dX3_isSame_372 : decode cX3_isSame 372 = .ok (.getfield 9, 3) := by decide +kernel
theorem dX3_isSame_375 : decode cX3_isSame 375 = .ok (.iload 4, 2) := by decide +kernel
theorem dX3_isSame_377 : decode cX3_isSame 377 = .ok (.aaload, 1) := by decide +kernel
theorem dX3_isSame_378 : decode cX3_isSame 378 = .ok (.iconst 0, 1) := by decide +kernel
theorem dX3_isSame_379 : decode cX3_isSame 379 = .ok (.iaload, 1) := by decide +kernel
theorem dX3_isSame_380 : decode cX3_isSame 380 = .ok (.dup2, 1) := by decide +kernel
theorem dX3_isSame_381 : decode cX3_isSame 381 = .ok (.iaload, 1) := by decide +kernel
theorem dX3_isSame_382 : decode cX3_isSame 382 = .ok (.iconst 1, 1) := by decide +kernel
theorem dX3_isSame_383 : decode cX3_isSame 383 = .ok (.iadd, 1) := by decide +kernel
theorem dX3_isSame_384 : decode cX3_isSame 384 = .ok (.iastore, 1) := by decide +kernel
theorem dX3_isSame_385 : decode cX3_isSame 385 = .ok (.iinc 4 1, 3) := by decide +kernel
theorem dX3_isSame_388 : decode cX3_isSame 388 = .ok (.goto (-303), 3) := by decide +kernel
theorem dX3_isSame_391 : decode cX3_isSame 391 = .ok (.iconst 0, 1) := by decide +kernel
theorem dX3_isSame_392 : decode cX3_isSame 392 = .ok (.istore 4, 2) := by decide +kernel
theorem dX3_isSame_394 : decode cX3_isSame 394 = .ok (.iload 4, 2) := by decide +kernel
theorem dX3_isSame_396 : decode cX3_isSame 396 = .ok (.bipush 10, 2) := by decide +kernel
theorem dX3_isSame_398 : decode cX3_isSame 398 = .ok (.if_icmp .ge 24, 3) := by decide +kernel
theorem dX3_isSame_401 : decode cX3_isSame 401 = .ok (.aload_n 1, 1) := by decide +kernel
theorem dX3_isSame_402 : decode cX3_isSame 402 = .ok (.iload 4, 2) := by decide +kernel
theorem dX3_isSame_404 : decode cX3_isSame 404 = .ok (.invokevirtual 112, 3) := by decide +kernel
theorem dX3_isSame_407 : decode cX3_isSame 407 = .ok (.aload_n 3, 1) := by decide +kernel
theorem dX3_isSame_408 : decode cX3_isSame 408 = .ok (.iload 4, 2) := by decide +kernel
theorem dX3_isSame_410 : decode cX3_isSame 410 = .ok (.iaload, 1) := by decide +kernel
theorem dX3_isSame_411 : decode cX3_isSame 411 = .ok (.if_icmp .eq 5, 3) := by decide +kernel
theorem dX3_isSame_414 : decode cX3_isSame 414 = .ok (.iconst 0, 1) := by decide +kernel
theorem dX3_isSame_415 : decode cX3_isSame 415 = .ok (.ireturn, 1) := by decide +kernel
theorem dX3_isSame_416 : decode cX3_isSame 416 = .ok (.iinc 4 1, 3) := by decide +kernel
theorem dX3_isSame_419 : decode cX3_isSame 419 = .ok (.goto (-25), 3) := by decide +kernel
theorem dX3_isSame_422 : decode cX3_isSame 422 = .ok (.iconst 0, 1) := by decide +kernel
theorem dX3_isSame_423 : decode cX3_isSame 423 = .ok (.istore 4, 2) := by decide +kernel
theorem dX3_isSame_425 : decode cX3_isSame 425 = .ok (.iload 4, 2) := by decide +kernel
theorem dX3_isSame_427 : decode cX3_isSame 427 = .ok (.bipush 12, 2) := by decide +kernel
theorem dX3_isSame_429 : decode cX3_isSame 429 = .ok (.if_icmp .ge 27, 3) := by decide +kernel
theorem dX3_isSame_432 : decode cX3_isSame 432 = .ok (.aload_n 1, 1) := by decide +kernel
theorem dX3_isSame_433 : decode cX3_isSame 433 = .ok (.iload 4, 2) := by decide +kernel
theorem dX3_isSame_435 : decode cX3_isSame 435 = .ok (.invokevirtual 115, 3) := by decide +kernel
theorem dX3_isSame_438 : decode cX3_isSame 438 = .ok (.aload_n 3, 1) := by decide +kernel
theorem dX3_isSame_439 : decode cX3_isSame 439 = .ok (.bipush 10, 2) := by decide +kernel
theorem dX3_isSame_441 : decode cX3_isSame 441 = .ok (.iload 4, 2) := by decide +kernel
theorem dX3_isSame_443 : decode cX3_isSame 443 = .ok (.iadd, 1) := by decide +kernel
theorem dX3_isSame_444 : decode cX3_isSame 444 = .ok (.iaload, 1) := by decide +kernel
theorem dX3_isSame_445 : decode cX3_isSame 445 = .ok (.if_icmp .eq 5, 3) := by decide +kernel
theorem dX3_isSame_448 : decode cX3_isSame 448 = .ok (.iconst 0, 1) := by decide +kernel
theorem dX3_isSame_449 : decode cX3_isSame 449 = .ok (.ireturn, 1) := by decide +kernel
theorem dX3_isSame_450 : decode cX3_isSame 450 = .ok (.iinc 4 1, 3) := by decide +kernel
theorem dX3_isSame_453 : decode cX3_isSame 453 = .ok (.goto (-28), 3) := by decide +kernel
theorem dX3_isSame_456 : decode cX3_isSame 456 = .ok (.iconst 0, 1) := by decide +kernel
theorem dX3_isSame_457 : decode cX3_isSame 457 = .ok (.istore 4, 2) := by decide +kernel
theorem dX3_isSame_459 : decode cX3_isSame 459 = .ok (.iload 4, 2) := by decide +kernel
theorem dX3_isSame_461 : decode cX3_isSame 461 = .ok (.bipush 6, 2) := by decide +kernel
theorem dX3_isSame_463 : decode cX3_isSame 463 = .ok (.if_icmp .ge 258, 3) := by decide +kernel
theorem dX3_isSame_466 : decode cX3_isSame 466 = .ok (.iconst 0, 1) := by decide +kernel
theorem dX3_isSame_467 : decode cX3_isSame 467 = .ok (.istore 5, 2) := by decide +kernel
theorem dX3_isSame_469 : decode cX3_isSame 469 = .ok (.iconst 0, 1) := by decide +kernel
theorem dX3_isSame_470 : decode cX3_isSame 470 = .ok (.istore 6, 2) := by decide +kernel
theorem dX3_isSame_472 : decode cX3_isSame 472 = .ok (.iconst 0, 1) := by decide +kernel
theorem dX3_isSame_473 : decode cX3_isSame 473 = .ok (.istore 7, 2) := by decide +kernel
theorem dX3_isSame_475 : decode cX3_isSame 475 = .ok (.iconst 0, 1) := by decide +kernel
theorem dX3_isSame_476 : decode cX3_isSame 476 = .ok (.istore 8, 2) := by decide +kernel
theorem dX3_isSame_478 : decode cX3_isSame 478 = .ok (.iload 8, 2) := by decide +kernel
theorem dX3_isSame_480 : decode cX3_isSame 480 = .ok (.aload_n 0, 1) := by decide +kernel
theorem dX3_isSame_481 : decode cX3_isSame 481 = .ok (.getfield 35, 3) := by decide +kernel
theorem dX3_isSame_484 : decode cX3_isSame 484 = .ok (.if_icmp .ge 53, 3) := by decide +kernel
theorem dX3_isSame_487 : decode cX3_isSame 487 = .ok (.iload 5, 2) := by decide +kernel
theorem dX3_isSame_489 : decode cX3_isSame 489 = .ok (.aload_n 0, 1) := by decide +kernel
theorem dX3_isSame_490 : decode cX3_isSame 490 = .ok (.getfield 22, 3) := by decide +kernel
theorem dX3_isSame_493 : decode cX3_isSame 493 = .ok (.iload 8, 2) := by decide +kernel
theorem dX3_isSame_495 : decode cX3_isSame 495 = .ok (.aaload, 1) := by decide +kernel
theorem dX3_isSame_496 : decode cX3_isSame 496 = .ok (.iload 4, 2) := by decide +kernel
theorem dX3_isSame_498 : decode cX3_isSame 498 = .ok (.baload, 1) := by decide +kernel
theorem dX3_isSame_499 : decode cX3_isSame 499 = .ok (.ifCond .eq 7, 3) := by decide +kernel
theorem dX3_isSame_502 : decode cX3_isSame 502 = .ok (.iconst 1, 1) := by decide +kernel
theorem dX3_isSame_503 : decode cX3_isSame 503 = .ok (.goto 4, 3) := by decide +kernel
theorem dX3_isSame_506 : decode cX3_isSame 506 = .ok (.iconst 0, 1) := by decide +kernel
theorem dX3_isSame_507 : decode cX3_isSame 507 = .ok (.iadd, 1) := by decide +kernel
theorem dX3_isSame_508 : decode cX3_isSame 508 = .ok (.istore 5, 2) := by decide +kernel
theorem dX3_isSame_510 : decode cX3_isSame 510 = .ok (.iload 6, 2) := by decide +kernel
theorem dX3_isSame_512 : decode cX3_isSame 512 = .ok (.aload_n 0, 1) := by decide +kernel
theorem dX3_isSame_513 : decode cX3_isSame 513 = .ok (.iload 8, 2) := by decide +kernel
theorem dX3_isSame_515 : decode cX3_isSame 515 = .ok (.iload 4, 2) := by decide +kernel
theorem dX3_isSame_517 : decode cX3_isSame 517 = .ok (.invokevirtual 49, 3) := by decide +kernel
theorem dX3_isSame_520 : decode cX3_isSame 520 = .ok (.ifCond .eq 7, 3) := by decide +kernel
theorem dX3_isSame_523 : decode cX3_isSame 523 = .ok (.iconst 0, 1) := by decide +kernel
theorem dX3_isSame_524 : decode cX3_isSame 524 = .ok (.goto 4, 3) := by decide +kernel
theorem dX3_isSame_527 : decode cX3_isSame 527 = .ok (.iconst 1, 1) := by decide +kernel
theorem dX3_isSame_528 : decode cX3_isSame 528 = .ok (.iadd, 1) := by decide +kernel
theorem dX3_isSame_529 : decode cX3_isSame 529 = .ok (.istore 6, 2) := by decide +kernel
theorem dX3_isSame_531 : decode cX3_isSame 531 = .ok (.iinc 8 1, 3) := by decide +kernel
theorem dX3_isSame_534 : decode cX3_isSame 534 = .ok (.goto (-56), 3) := by decide +kernel
theorem dX3_isSame_537 : decode cX3_isSame 537 = .ok (.aload_n 0, 1) := by decide +kernel
theorem dX3_isSame_538 : decode cX3_isSame 538 = .ok (.getfield 25, 3) := by decide +kernel
theorem dX3_isSame_541 : decode cX3_isSame 541 = .ok (.iload 4, 2) := by decide +kernel
theorem dX3_isSame_543 : decode cX3_isSame 543 = .ok (.aaload, 1) := by decide +kernel
theorem dX3_isSame_544 : decode cX3_isSame 544 = .ok (.astore 8, 2) := by decide +kernel
theorem dX3_isSame_546 : decode cX3_isSame 546 = .ok (.aload 8, 2) := by decide +kernel
theorem dX3_isSame_548 : decode cX3_isSame 548 = .ok (.arraylength, 1) := by decide +kernel
theorem dX3_isSame_549 : decode cX3_isSame 549 = .ok (.istore 9, 2) := by decide +kernel
theorem dX3_isSame_551 : decode cX3_isSame 551 = .ok (.iconst 0, 1) := by decide +kernel
theorem dX3_isSame_552 : decode cX3_isSame 552 = .ok (.istore 10, 2) := by decide +kernel
theorem dX3_isSame_554 : decode cX3_isSame 554 = .ok (.iload 10, 2) := by decide +kernel
theorem dX3_isSame_556 : decode cX3_isSame 556 = .ok (.iload 9, 2) := by decide +kernel
theorem dX3_isSame_558 : decode cX3_isSame 558 = .ok (.if_icmp .ge 31, 3) := by decide +kernel
theorem dX3_isSame_561 : decode cX3_isSame 561 = .ok (.aload 8, 2) := by decide +kernel
theorem dX3_isSame_563 : decode cX3_isSame 563 = .ok (.iload 10, 2) := by decide +kernel
theorem dX3_isSame_565 : decode cX3_isSame 565 = .ok (.baload, 1) := by decide +kernel
theorem dX3_isSame_566 : decode cX3_isSame 566 = .ok (.istore 11, 2) := by decide +kernel
theorem dX3_isSame_568 : decode cX3_isSame 568 = .ok (.iload 7, 2) := by decide +kernel
theorem dX3_isSame_570 : decode cX3_isSame 570 = .ok (.iload 11, 2) := by decide +kernel
theorem dX3_isSame_572 : decode cX3_isSame 572 = .ok (.ifCond .eq 7, 3) := by decide +kernel
theorem dX3_isSame_575 : decode cX3_isSame 575 = .ok (.iconst 1, 1) := by decide +kernel
theorem dX3_isSame_576 : decode cX3_isSame 576 = .ok (.goto 4, 3) := by decide +kernel
theorem dX3_isSame_579 : decode cX3_isSame 579 = .ok (.iconst 0, 1) := by decide +kernel
theorem dX3_isSame_580 : decode cX3_isSame 580 = .ok (.iadd, 1) := by decide +kernel
theorem dX3_isSame_581 : decode cX3_isSame 581 = .ok (.istore 7, 2) := by decide +kernel
theorem dX3_isSame_583 : decode cX3_isSame 583 = .ok (.iinc 10 1, 3) := by decide +kernel
theorem dX3_isSame_586 : decode cX3_isSame 586 = .ok (.goto (-32), 3) := by decide +kernel
theorem dX3_isSame_589 : decode cX3_isSame 589 = .ok (.aload_n 0, 1) := by decide +kernel
theorem dX3_isSame_590 : decode cX3_isSame 590 = .ok (.getfield 28, 3) := by decide +kernel
theorem dX3_isSame_593 : decode cX3_isSame 593 = .ok (.iload 4, 2) := by decide +kernel
theorem dX3_isSame_595 : decode cX3_isSame 595 = .ok (.aaload, 1) := by decide +kernel
theorem dX3_isSame_596 : decode cX3_isSame 596 = .ok (.astore 8, 2) := by decide +kernel
theorem dX3_isSame_598 : decode cX3_isSame 598 = .ok (.aload 8, 2) := by decide +kernel
theorem dX3_isSame_600 : decode cX3_isSame 600 = .ok (.arraylength, 1) := by decide +kernel
theorem dX3_isSame_601 : decode cX3_isSame 601 = .ok (.istore 9, 2) := by decide +kernel
theorem dX3_isSame_603 : decode cX3_isSame 603 = .ok (.iconst 0, 1) := by decide +kernel
theorem dX3_isSame_604 : decode cX3_isSame 604 = .ok (.istore 10, 2) := by decide +kernel
theorem dX3_isSame_606 : decode cX3_isSame 606 = .ok (.iload 10, 2) := by decide +kernel
theorem dX3_isSame_608 : decode cX3_isSame 608 = .ok (.iload 9, 2) := by decide +kernel
theorem dX3_isSame_610 : decode cX3_isSame 610 = .ok (.if_icmp .ge 31, 3) := by decide +kernel
theorem dX3_isSame_613 : decode cX3_isSame 613 = .ok (.aload 8, 2) := by decide +kernel
theorem dX3_isSame_615 : decode cX3_isSame 615 = .ok (.iload 10, 2) := by decide +kernel
theorem dX3_isSame_617 : decode cX3_isSame 617 = .ok (.baload, 1) := by decide +kernel
theorem dX3_isSame_618 : decode cX3_isSame 618 = .ok (.istore 11, 2) := by decide +kernel
theorem dX3_isSame_620 : decode cX3_isSame 620 = .ok (.iload 7, 2) := by decide +kernel
theorem dX3_isSame_622 : decode cX3_isSame 622 = .ok (.iload 11, 2) := by decide +kernel
theorem dX3_isSame_624 : decode cX3_isSame 624 = .ok (.ifCond .eq 7, 3) := by decide +kernel
theorem dX3_isSame_627 : decode cX3_isSame 627 = .ok (.iconst 1, 1) := by decide +kernel
theorem dX3_isSame_628 : decode cX3_isSame 628 = .ok (.goto 4, 3) := by decide +kernel
theorem dX3_isSame_631 : decode cX3_isSame 631 = .ok (.iconst 0, 1) := by decide +kernel
theorem dX3_isSame_632 : decode cX3_isSame 632 = .ok (.iadd, 1) := by decide +kernel
theorem dX3_isSame_633 : decode cX3_isSame 633 = .ok (.istore 7, 2) := by decide +kernel
theorem dX3_isSame_635 : decode cX3_isSame 635 = .ok (.iinc 10 1, 3) := by decide +kernel
theorem dX3_isSame_638 : decode cX3_isSame 638 = .ok (.goto (-32), 3) := by decide +kernel
theorem dX3_isSame_641 : decode cX3_isSame 641 = .ok (.aload_n 1, 1) := by decide +kernel
theorem dX3_isSame_642 : decode cX3_isSame 642 = .ok (.iload 4, 2) := by decide +kernel
theorem dX3_isSame_644 : decode cX3_isSame 644 = .ok (.invokevirtual 118, 3) := by decide +kernel
theorem dX3_isSame_647 : decode cX3_isSame 647 = .ok (.iload 5, 2) := by decide +kernel
theorem dX3_isSame_649 : decode cX3_isSame 649 = .ok (.if_icmp .ne 25, 3) := by decide +kernel
theorem dX3_isSame_652 : decode cX3_isSame 652 = .ok (.aload_n 1, 1) := by decide +kernel
theorem dX3_isSame_653 : decode cX3_isSame 653 = .ok (.iload 4, 2) := by decide +kernel
theorem dX3_isSame_655 : decode cX3_isSame 655 = .ok (.invokevirtual 121, 3) := by decide +kernel
theorem dX3_isSame_658 : decode cX3_isSame 658 = .ok (.iload 6, 2) := by decide +kernel
theorem dX3_isSame_660 : decode cX3_isSame 660 = .ok (.if_icmp .ne 14, 3) := by decide +kernel
theorem dX3_isSame_663 : decode cX3_isSame 663 = .ok (.aload_n 1, 1) := by decide +kernel
theorem dX3_isSame_664 : decode cX3_isSame 664 = .ok (.iload 4, 2) := by decide +kernel
theorem dX3_isSame_666 : decode cX3_isSame 666 = .ok (.invokevirtual 124, 3) := by decide +kernel
theorem dX3_isSame_669 : decode cX3_isSame 669 = .ok (.iload 7, 2) := by decide +kernel
theorem dX3_isSame_671 : decode cX3_isSame 671 = .ok (.if_icmp .eq 5, 3) := by decide +kernel
theorem dX3_isSame_674 : decode cX3_isSame 674 = .ok (.iconst 0, 1) := by decide +kernel
theorem dX3_isSame_675 : decode cX3_isSame 675 = .ok (.ireturn, 1) := by decide +kernel
theorem dX3_isSame_676 : decode cX3_isSame 676 = .ok (.iconst 0, 1) := by decide +kernel
theorem dX3_isSame_677 : decode cX3_isSame 677 = .ok (.istore 8, 2) := by decide +kernel
theorem dX3_isSame_679 : decode cX3_isSame 679 = .ok (.iload 8, 2) := by decide +kernel
theorem dX3_isSame_681 : decode cX3_isSame 681 = .ok (.bipush 6, 2) := by decide +kernel
theorem dX3_isSame_683 : decode cX3_isSame 683 = .ok (.if_icmp .ge 32, 3) := by decide +kernel
theorem dX3_isSame_686 : decode cX3_isSame 686 = .ok (.aload_n 1, 1) := by decide +kernel
theorem dX3_isSame_687 : decode cX3_isSame 687 = .ok (.iload 4, 2) := by decide +kernel
theorem dX3_isSame_689 : decode cX3_isSame 689 = .ok (.iload 8, 2) := by decide +kernel
theorem dX3_isSame_691 : decode cX3_isSame 691 = .ok (.invokevirtual 127, 3) := by decide +kernel
theorem dX3_isSame_694 : decode cX3_isSame 694 = .ok (.aload_n 0, 1) := by decide +kernel
theorem dX3_isSame_695 : decode cX3_isSame 695 = .ok (.getfield 31, 3) := by decide +kernel
theorem dX3_isSame_698 : decode cX3_isSame 698 = .ok (.iload 4, 2) := by decide +kernel
theorem dX3_isSame_700 : decode cX3_isSame 700 = .ok (.aaload, 1) := by decide +kernel
theorem dX3_isSame_701 : decode cX3_isSame 701 = .ok (.iload 8, 2) := by decide +kernel
theorem dX3_isSame_703 : decode cX3_isSame 703 = .ok (.baload, 1) := by decide +kernel
theorem dX3_isSame_704 : decode cX3_isSame 704 = .ok (.if_icmp .eq 5, 3) := by decide +kernel
theorem dX3_isSame_707 : decode cX3_isSame 707 = .ok (.iconst 0, 1) := by decide +kernel
theorem dX3_isSame_708 : decode cX3_isSame 708 = .ok (.ireturn, 1) := by decide +kernel
theorem dX3_isSame_709 : decode cX3_isSame 709 = .ok (.iinc 8 1, 3) := by decide +kernel
theorem dX3_isSame_712 : decode cX3_isSame 712 = .ok (.goto (-33), 3) := by decide +kernel
theorem dX3_isSame_715 : decode cX3_isSame 715 = .ok (.iinc 4 1, 3) := by decide +kernel
theorem dX3_isSame_718 : decode cX3_isSame 718 = .ok (.goto (-259), 3) := by decide +kernel
theorem dX3_isSame_721 : decode cX3_isSame 721 = .ok (.aload_n 1, 1) := by decide +kernel
theorem dX3_isSame_722 : decode cX3_isSame 722 = .ok (.invokevirtual 130, 3) := by decide +kernel
theorem dX3_isSame_725 : decode cX3_isSame 725 = .ok (.aload_n 0, 1) := by decide +kernel
theorem dX3_isSame_726 : decode cX3_isSame 726 = .ok (.getfield 35, 3) := by decide +kernel
theorem dX3_isSame_729 : decode cX3_isSame 729 = .ok (.ifCond .ne 7, 3) := by decide +kernel
theorem dX3_isSame_732 : decode cX3_isSame 732 = .ok (.dconst 0, 1) := by decide +kernel
theorem dX3_isSame_733 : decode cX3_isSame 733 = .ok (.goto 11, 3) := by decide +kernel
theorem dX3_isSame_736 : decode cX3_isSame 736 = .ok (.iload_n 2, 1) := by decide +kernel
theorem dX3_isSame_737 : decode cX3_isSame 737 = .ok (.i2d, 1) := by decide +kernel
theorem dX3_isSame_738 : decode cX3_isSame 738 = .ok (.aload_n 0, 1) := by decide +kernel
theorem dX3_isSame_739 : decode cX3_isSame 739 = .ok (.getfield 35, 3) := by decide +kernel
theorem dX3_isSame_742 : decode cX3_isSame 742 = .ok (.i2d, 1) := by decide +kernel
theorem dX3_isSame_743 : decode cX3_isSame 743 = .ok (.ddiv, 1) := by decide +kernel
theorem dX3_isSame_744 : decode cX3_isSame 744 = .ok (.dcmp .l, 1) := by decide +kernel
theorem dX3_isSame_745 : decode cX3_isSame 745 = .ok (.ifCond .ne 7, 3) := by decide +kernel
theorem dX3_isSame_748 : decode cX3_isSame 748 = .ok (.iconst 1, 1) := by decide +kernel
theorem dX3_isSame_749 : decode cX3_isSame 749 = .ok (.goto 4, 3) := by decide +kernel
theorem dX3_isSame_752 : decode cX3_isSame 752 = .ok (.iconst 0, 1) := by decide +kernel
theorem dX3_isSame_753 : decode cX3_isSame 753 = .ok (.ireturn, 1) := by decide +kernel
theorem dJ6_bitCount_0f7a4_0 : decode cJ6_bitCount_0f7a4 0 = .ok (.iload_n 0, 1) := by decide +kernel
theorem dJ6_bitCount_0f7a4_1 : decode cJ6_bitCount_0f7a4 1 = .ok (.iload_n 0, 1) := by decide +kernel
theorem dJ6_bitCount_0f7a4_2 : decode cJ6_bitCount_0f7a4 2 = .ok (.iconst 1, 1) := by decide +kernel
theorem dJ6_bitCount_0f7a4_3 : decode cJ6_bitCount_0f7a4 3 = .ok (.iushr, 1) := by decide +kernel
theorem dJ6_bitCount_0f7a4_4 : decode cJ6_bitCount_0f7a4 4 = .ok (.ldc_w 265, 3) := by decide +kernel
theorem dJ6_bitCount_0f7a4_7 : decode cJ6_bitCount_0f7a4 7 = .ok (.iand, 1) := by decide +kernel
theorem dJ6_bitCount_0f7a4_8 : decode cJ6_bitCount_0f7a4 8 = .ok (.isub, 1) := by decide +kernel
theorem dJ6_bitCount_0f7a4_9 : decode cJ6_bitCount_0f7a4 9 = .ok (.istore_n 0, 1) := by decide +kernel
theorem dJ6_bitCount_0f7a4_10 : decode cJ6_bitCount_0f7a4 10 = .ok (.iload_n 0, 1) := by decide +kernel
theorem dJ6_bitCount_0f7a4_11 : decode cJ6_bitCount_0f7a4 11 = .ok (.ldc_w 266, 3) := by decide +kernel
theorem dJ6_bitCount_0f7a4_14 : decode cJ6_bitCount_0f7a4 14 = .ok (.iand, 1) := by decide +kernel
theorem dJ6_bitCount_0f7a4_15 : decode cJ6_bitCount_0f7a4 15 = .ok (.iload_n 0, 1) := by decide +kernel
theorem dJ6_bitCount_0f7a4_16 : decode cJ6_bitCount_0f7a4 16 = .ok (.iconst 2, 1) := by decide +kernel
theorem dJ6_bitCount_0f7a4_17 : decode cJ6_bitCount_0f7a4 17 = .ok (.iushr, 1) := by decide +kernel
theorem dJ6_bitCount_0f7a4_18 : decode cJ6_bitCount_0f7a4 18 = .ok (.ldc_w 266, 3) := by decide +kernel
theorem dJ6_bitCount_0f7a4_21 : decode cJ6_bitCount_0f7a4 21 = .ok (.iand, 1) := by decide +kernel
theorem dJ6_bitCount_0f7a4_22 : decode cJ6_bitCount_0f7a4 22 = .ok (.iadd, 1) := by decide +kernel
theorem dJ6_bitCount_0f7a4_23 : decode cJ6_bitCount_0f7a4 23 = .ok (.istore_n 0, 1) := by decide +kernel
theorem dJ6_bitCount_0f7a4_24 : decode cJ6_bitCount_0f7a4 24 = .ok (.iload_n 0, 1) := by decide +kernel
theorem dJ6_bitCount_0f7a4_25 : decode cJ6_bitCount_0f7a4 25 = .ok (.iload_n 0, 1) := by decide +kernel
theorem dJ6_bitCount_0f7a4_26 : decode cJ6_bitCount_0f7a4 26 = .ok (.iconst 4, 1) := by decide +kernel
theorem dJ6_bitCount_0f7a4_27 : decode cJ6_bitCount_0f7a4 27 = .ok (.iushr, 1) := by decide +kernel
theorem dJ6_bitCount_0f7a4_28 : decode cJ6_bitCount_0f7a4 28 = .ok (.iadd, 1) := by decide +kernel
theorem dJ6_bitCount_0f7a4_29 : decode cJ6_bitCount_0f7a4 29 = .ok (.ldc_w 267, 3) := by decide +kernel
theorem dJ6_bitCount_0f7a4_32 : decode cJ6_bitCount_0f7a4 32 = .ok (.iand, 1) := by decide +kernel
theorem dJ6_bitCount_0f7a4_33 : decode cJ6_bitCount_0f7a4 33 = .ok (.istore_n 0, 1) := by decide +kernel
theorem dJ6_bitCount_0f7a4_34 : decode cJ6_bitCount_0f7a4 34 = .ok (.iload_n 0, 1) := by decide +kernel
theorem dJ6_bitCount_0f7a4_35 : decode cJ6_bitCount_0f7a4 35 = .ok (.iload_n 0, 1) := by decide +kernel
theorem dJ6_bitCount_0f7a4_36 : decode cJ6_bitCount_0f7a4 36 = .ok (.bipush 8, 2) := by decide +kernel
theorem dJ6_bitCount_0f7a4_38 : decode cJ6_bitCount_0f7a4 38 = .ok (.iushr, 1) := by decide +kernel
theorem dJ6_bitCount_0f7a4_39 : decode cJ6_bitCount_0f7a4 39 = .ok (.iadd, 1) := by decide +kernel
theorem dJ6_bitCount_0f7a4_40 : decode cJ6_bitCount_0f7a4 40 = .ok (.istore_n 0, 1) := by decide +kernel
theorem dJ6_bitCount_0f7a4_41 : decode cJ6_bitCount_0f7a4 41 = .ok (.iload_n 0, 1) := by decide +kernel
theorem dJ6_bitCount_0f7a4_42 : decode cJ6_bitCount_0f7a4 42 = .ok (.iload_n 0, 1) := by decide +kernel
theorem dJ6_bitCount_0f7a4_43 : decode cJ6_bitCount_0f7a4 43 = .ok (.bipush 16, 2) := by decide +kernel
theorem dJ6_bitCount_0f7a4_45 : decode cJ6_bitCount_0f7a4 45 = .ok (.iushr, 1) := by decide +kernel
theorem dJ6_bitCount_0f7a4_46 : decode cJ6_bitCount_0f7a4 46 = .ok (.iadd, 1) := by decide +kernel
theorem dJ6_bitCount_0f7a4_47 : decode cJ6_bitCount_0f7a4 47 = .ok (.istore_n 0, 1) := by decide +kernel
theorem dJ6_bitCount_0f7a4_48 : decode cJ6_bitCount_0f7a4 48 = .ok (.iload_n 0, 1) := by decide +kernel
theorem dJ6_bitCount_0f7a4_49 : decode cJ6_bitCount_0f7a4 49 = .ok (.bipush 63, 2) := by decide +kernel
theorem dJ6_bitCount_0f7a4_51 : decode cJ6_bitCount_0f7a4 51 = .ok (.iand, 1) := by decide +kernel
theorem dJ6_bitCount_0f7a4_52 : decode cJ6_bitCount_0f7a4 52 = .ok (.ireturn, 1) := by decide +kernel
