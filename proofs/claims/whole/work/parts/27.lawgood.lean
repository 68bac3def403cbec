set_option maxRecDepth 20000 in
theorem ggL_law_X2_init : GoodIn wsL_law wsX2_init := goodIn_r _ [9, 10, 11, 12, 13, 14, 15, 16, 17, 18, 19, 20, 21, 22, 23, 24, 25, 26, 27, 28, 29, 30, 31, 32, 33, 34, 35, 36, 37, 38, 39, 40, 41, 42, 43, 44, 45, 748, 749, 750, 751, 752, 753, 754, 730, 731, 732, 733, 755, 756, 757, 758, 759, 760, 761] (by decide +kernel) (by decide +kernel)
set_option maxRecDepth 20000 in
theorem gL_law_X2_init : GoodIn wsL_law (wsX2_init) := ggL_law_X2_init
set_option maxRecDepth 20000 in
theorem ggL_law_X3_init : GoodIn wsL_law wsX3_init := goodIn_r _ [48, 49, 11, 12, 28, 50, 51, 52, 53, 54, 55, 56, 57, 58, 59, 734, 735, 736, 737, 738, 739, 740, 741, 742, 743, 744, 745, 746, 747] (by decide +kernel) (by decide +kernel)
set_option maxRecDepth 20000 in
theorem gL_law_X3_init : GoodIn wsL_law (wsX3_init) := ggL_law_X3_init
set_option maxRecDepth 20000 in
theorem ggL_law_L_addFable : GoodIn wsL_law wsL_addFable := goodIn_ca (goodIn_ca (goodIn_r _ [63, 64, 65, 66, 67, 68, 2, 69, 16, 70, 71, 72, 73, 74, 75, 76, 77, 78, 79, 80, 81, 82, 83, 84, 85, 86, 87, 88, 89, 90, 15, 91, 27, 29, 30, 31, 32, 33, 34, 730, 731, 732, 733, 748, 749, 750, 751, 752, 753, 754] (by decide +kernel) (by decide +kernel)) (goodIn_sub (fun _ h => List.mem_append_left _ (List.mem_append_left _ (List.mem_append_right _ h))) (by decide +kernel))) (goodIn_sub (fun _ h => List.mem_append_left _ (List.mem_append_right _ h)) (by decide +kernel))
set_option maxRecDepth 20000 in
theorem gL_law_L_addFable : GoodIn wsL_law (va_wsS RL 114 yL_addFable wsL_addFable) := goodIn_app (goodIn_of _ (by decide +kernel)) ggL_law_L_addFable
set_option maxRecDepth 20000 in
theorem ggL_law_X3_addFable : GoodIn wsL_law wsX3_addFable := goodIn_r _ [95, 96, 97, 98, 99, 5, 100, 101, 102, 103, 104, 105, 106, 107, 108, 109, 110, 111, 112, 113, 114, 115, 116, 117, 50, 51, 52, 53, 734, 735, 736, 737, 738, 739, 740, 741, 742, 743, 744, 745, 746, 747] (by decide +kernel) (by decide +kernel)
set_option maxRecDepth 20000 in
theorem gL_law_X3_addFable : GoodIn wsL_law (wsV RL 119 RX3 yX3_addFable wsX3_addFable) := goodIn_app (goodIn_of _ (by decide +kernel)) ggL_law_X3_addFable
set_option maxRecDepth 20000 in
theorem ggL_law_X3_thrown : GoodIn wsL_law wsX3_thrown := goodIn_r _ [121, 96, 734, 735, 736, 737, 738, 739, 740, 741, 742, 743, 744, 745, 746, 747] (by decide +kernel) (by decide +kernel)
set_option maxRecDepth 20000 in
theorem gL_law_X3_thrown : GoodIn wsL_law (wsV RL 120 RX3 yX3_thrown wsX3_thrown) := goodIn_app (goodIn_of _ (by decide +kernel)) ggL_law_X3_thrown
set_option maxRecDepth 20000 in
theorem ggL_law_L_addBeast : GoodIn wsL_law wsL_addBeast := goodIn_ca (goodIn_ca (goodIn_r _ [124, 64, 65, 125, 126, 127, 2, 128, 85, 86, 16, 129, 130, 131, 132, 133, 134, 73, 74, 87, 75, 76, 77, 135, 136, 137, 138, 139, 140, 141, 142, 143, 144, 145, 146, 147, 730, 731, 732, 733, 748, 749, 750, 751, 752, 753, 754] (by decide +kernel) (by decide +kernel)) (goodIn_sub (fun _ h => List.mem_append_left _ (List.mem_append_right _ h)) (by decide +kernel))) (goodIn_sub (fun _ h => List.mem_append_left _ (List.mem_append_left _ (List.mem_append_right _ h))) (by decide +kernel))
set_option maxRecDepth 20000 in
theorem gL_law_L_addBeast : GoodIn wsL_law (va_wsS RL 124 yL_addBeast wsL_addBeast) := goodIn_app (goodIn_of _ (by decide +kernel)) ggL_law_L_addBeast
set_option maxRecDepth 20000 in
theorem ggL_law_X3_addBeast : GoodIn wsL_law wsX3_addBeast := goodIn_r _ [151, 96, 51, 152, 153, 154, 5, 155, 97, 101, 102, 103, 104, 105, 106, 110, 111, 112, 113, 156, 157, 158, 159, 160, 161, 162, 53, 163, 164, 165, 734, 735, 736, 737, 738, 739, 740, 741, 742, 743, 744, 745, 746, 747] (by decide +kernel) (by decide +kernel)
set_option maxRecDepth 20000 in
theorem gL_law_X3_addBeast : GoodIn wsL_law (wsV RL 127 RX3 yX3_addBeast wsX3_addBeast) := goodIn_app (goodIn_of _ (by decide +kernel)) ggL_law_X3_addBeast
set_option maxRecDepth 20000 in
theorem ggL_law_L_addVariant : GoodIn wsL_law wsL_addVariant := goodIn_ca (goodIn_ca (goodIn_r _ [168, 64, 65, 169, 170, 171, 2, 172, 85, 86, 16, 129, 173, 131, 132, 133, 134, 73, 74, 87, 75, 76, 77, 78, 79, 80, 81, 82, 83, 84, 135, 136, 137, 174, 175, 176, 88, 89, 90, 15, 91, 27, 29, 30, 31, 32, 33, 34, 730, 731, 732, 733, 748, 749, 750, 751, 752, 753, 754] (by decide +kernel) (by decide +kernel)) (goodIn_sub (fun _ h => List.mem_append_left _ (List.mem_append_right _ h)) (by decide +kernel))) (goodIn_sub (fun _ h => List.mem_append_left _ (List.mem_append_left _ (List.mem_append_right _ h))) (by decide +kernel))
set_option maxRecDepth 20000 in
theorem gL_law_L_addVariant : GoodIn wsL_law (va_wsS RL 128 yL_addVariant wsL_addVariant) := goodIn_app (goodIn_of _ (by decide +kernel)) ggL_law_L_addVariant
set_option maxRecDepth 20000 in
theorem ggL_law_X3_addVariant : GoodIn wsL_law wsX3_addVariant := goodIn_r _ [180, 96, 97, 51, 50, 152, 153, 154, 5, 155, 101, 102, 103, 104, 105, 106, 107, 108, 109, 110, 111, 112, 113, 156, 157, 158, 114, 115, 116, 117, 52, 53, 734, 735, 736, 737, 738, 739, 740, 741, 742, 743, 744, 745, 746, 747] (by decide +kernel) (by decide +kernel)
set_option maxRecDepth 20000 in
theorem gL_law_X3_addVariant : GoodIn wsL_law (wsV RL 131 RX3 yX3_addVariant wsX3_addVariant) := goodIn_app (goodIn_of _ (by decide +kernel)) ggL_law_X3_addVariant
set_option maxRecDepth 20000 in
theorem ggL_law_L_turnPass : GoodIn wsL_law wsL_turnPass := goodIn_ca (goodIn_ca (goodIn_r _ [183, 64, 184, 185, 186, 187, 2, 188, 189, 190, 20, 191, 78, 79, 80, 73, 74, 192, 193, 194, 19, 195, 39, 175, 176, 135, 136, 137, 730, 731, 732, 733, 755, 756, 757, 758, 759, 760, 761] (by decide +kernel) (by decide +kernel)) (goodIn_sub (fun _ h => List.mem_append_right _ h) (by decide +kernel))) (goodIn_sub (fun _ h => List.mem_append_left _ (List.mem_append_left _ (List.mem_append_right _ h))) (by decide +kernel))
set_option maxRecDepth 20000 in
theorem gL_law_L_turnPass : GoodIn wsL_law (va_wsS RL 132 yL_turnPass wsL_turnPass) := goodIn_app (goodIn_of _ (by decide +kernel)) ggL_law_L_turnPass
set_option maxRecDepth 20000 in
theorem ggL_law_X3_turnPass : GoodIn wsL_law wsX3_turnPass := goodIn_r _ [199, 96, 57, 107, 108, 5, 109, 101, 102, 103, 200, 201, 202, 203, 156, 157, 158, 734, 735, 736, 737, 738, 739, 740, 741, 742, 743, 744, 745, 746, 747] (by decide +kernel) (by decide +kernel)
set_option maxRecDepth 20000 in
theorem gL_law_X3_turnPass : GoodIn wsL_law (wsV RL 134 RX3 yX3_turnPass wsX3_turnPass) := goodIn_app (goodIn_of _ (by decide +kernel)) ggL_law_X3_turnPass
set_option maxRecDepth 20000 in
theorem ggL_law_L_turnMoral : GoodIn wsL_law wsL_turnMoral := goodIn_ca (goodIn_r _ [206, 64, 207, 208, 209, 2, 210, 20, 211, 78, 79, 80, 73, 74, 70, 71, 72, 174, 175, 176, 135, 136, 137, 730, 731, 732, 733, 755, 756, 757, 758, 759, 760, 761] (by decide +kernel) (by decide +kernel)) (goodIn_sub (fun _ h => List.mem_append_left _ (List.mem_append_left _ (List.mem_append_right _ h))) (by decide +kernel))
set_option maxRecDepth 20000 in
theorem gL_law_L_turnMoral : GoodIn wsL_law (va_wsS RL 135 yL_turnMoral wsL_turnMoral) := goodIn_app (goodIn_of _ (by decide +kernel)) ggL_law_L_turnMoral
set_option maxRecDepth 20000 in
theorem ggL_law_X3_turnMoral : GoodIn wsL_law wsX3_turnMoral := goodIn_r _ [215, 96, 55, 107, 108, 5, 109, 101, 102, 103, 98, 99, 100, 200, 201, 202, 203, 156, 157, 158, 734, 735, 736, 737, 738, 739, 740, 741, 742, 743, 744, 745, 746, 747] (by decide +kernel) (by decide +kernel)
set_option maxRecDepth 20000 in
theorem gL_law_X3_turnMoral : GoodIn wsL_law (wsV RL 137 RX3 yX3_turnMoral wsX3_turnMoral) := goodIn_app (goodIn_of _ (by decide +kernel)) ggL_law_X3_turnMoral
set_option maxRecDepth 20000 in
theorem ggL_law_L_turnBeast : GoodIn wsL_law wsL_turnBeast := goodIn_ca (goodIn_r _ [218, 64, 219, 220, 221, 2, 222, 20, 223, 78, 79, 80, 73, 74, 75, 76, 77, 174, 175, 176, 135, 136, 137, 730, 731, 732, 733, 755, 756, 757, 758, 759, 760, 761] (by decide +kernel) (by decide +kernel)) (goodIn_sub (fun _ h => List.mem_append_left _ (List.mem_append_left _ (List.mem_append_right _ h))) (by decide +kernel))
set_option maxRecDepth 20000 in
theorem gL_law_L_turnBeast : GoodIn wsL_law (va_wsS RL 138 yL_turnBeast wsL_turnBeast) := goodIn_app (goodIn_of _ (by decide +kernel)) ggL_law_L_turnBeast
set_option maxRecDepth 20000 in
theorem ggL_law_X3_turnBeast : GoodIn wsL_law wsX3_turnBeast := goodIn_r _ [227, 96, 56, 107, 108, 5, 109, 101, 102, 103, 104, 105, 106, 200, 201, 202, 203, 156, 157, 158, 734, 735, 736, 737, 738, 739, 740, 741, 742, 743, 744, 745, 746, 747] (by decide +kernel) (by decide +kernel)
set_option maxRecDepth 20000 in
theorem gL_law_X3_turnBeast : GoodIn wsL_law (wsV RL 140 RX3 yX3_turnBeast wsX3_turnBeast) := goodIn_app (goodIn_of _ (by decide +kernel)) ggL_law_X3_turnBeast
set_option maxRecDepth 20000 in
theorem ggL_law_L_tell : GoodIn wsL_law wsL_tell := goodIn_ca (goodIn_ca (goodIn_r _ [230, 64, 65, 231, 232, 233, 2, 234, 85, 86, 20, 235, 16, 131, 132, 133, 134, 73, 74, 87, 78, 79, 80, 135, 136, 137, 236, 237, 238, 19, 239, 40, 240, 41, 241, 242, 243, 244, 245, 42, 139, 140, 141, 142, 143, 144, 145, 146, 147, 730, 731, 732, 733, 755, 756, 757, 758, 759, 760, 761, 748, 749, 750, 751, 752, 753, 754] (by decide +kernel) (by decide +kernel)) (goodIn_sub (fun _ h => List.mem_append_left _ (List.mem_append_right _ h)) (by decide +kernel))) (goodIn_sub (fun _ h => List.mem_append_left _ (List.mem_append_left _ (List.mem_append_right _ h))) (by decide +kernel))
set_option maxRecDepth 20000 in
theorem gL_law_L_tell : GoodIn wsL_law (va_wsS RL 141 yL_tell wsL_tell) := goodIn_app (goodIn_of _ (by decide +kernel)) ggL_law_L_tell
set_option maxRecDepth 20000 in
theorem ggL_law_X3_tell : GoodIn wsL_law wsX3_tell := goodIn_r _ [249, 96, 54, 250, 251, 252, 5, 253, 152, 153, 154, 155, 97, 101, 102, 103, 107, 108, 109, 110, 111, 112, 113, 156, 157, 158, 254, 255, 256, 257, 55, 50, 56, 51, 258, 259, 260, 261, 734, 735, 736, 737, 738, 739, 740, 741, 742, 743, 744, 745, 746, 747] (by decide +kernel) (by decide +kernel)
set_option maxRecDepth 20000 in
theorem gL_law_X3_tell : GoodIn wsL_law (wsV RL 143 RX3 yX3_tell wsX3_tell) := goodIn_app (goodIn_of _ (by decide +kernel)) ggL_law_X3_tell
set_option maxRecDepth 20000 in
theorem ggL_law_L_forget : GoodIn wsL_law wsL_forget := goodIn_ca (goodIn_ca (goodIn_r _ [264, 64, 65, 265, 266, 267, 2, 268, 85, 86, 20, 235, 131, 132, 133, 134, 73, 74, 16, 87, 78, 79, 80, 135, 136, 137, 174, 175, 176, 242, 243, 244, 19, 245, 42, 139, 140, 141, 142, 143, 144, 145, 146, 147, 730, 731, 732, 733, 755, 756, 757, 758, 759, 760, 761, 748, 749, 750, 751, 752, 753, 754] (by decide +kernel) (by decide +kernel)) (goodIn_sub (fun _ h => List.mem_append_left _ (List.mem_append_right _ h)) (by decide +kernel))) (goodIn_sub (fun _ h => List.mem_append_left _ (List.mem_append_left _ (List.mem_append_right _ h))) (by decide +kernel))
set_option maxRecDepth 20000 in
theorem gL_law_L_forget : GoodIn wsL_law (va_wsS RL 144 yL_forget wsL_forget) := goodIn_app (goodIn_of _ (by decide +kernel)) ggL_law_L_forget
set_option maxRecDepth 20000 in
theorem ggL_law_X3_forget : GoodIn wsL_law wsX3_forget := goodIn_r _ [272, 96, 54, 250, 251, 252, 5, 253, 152, 153, 154, 155, 97, 101, 102, 103, 107, 108, 109, 110, 111, 112, 113, 156, 157, 158, 258, 259, 260, 261, 734, 735, 736, 737, 738, 739, 740, 741, 742, 743, 744, 745, 746, 747] (by decide +kernel) (by decide +kernel)
set_option maxRecDepth 20000 in
theorem gL_law_X3_forget : GoodIn wsL_law (wsV RL 146 RX3 yX3_forget wsX3_forget) := goodIn_app (goodIn_of _ (by decide +kernel)) ggL_law_X3_forget
set_option maxRecDepth 20000 in
theorem ggL_law_L_passSeasons : GoodIn wsL_law wsL_passSeasons := goodIn_ca (goodIn_r _ [275, 184, 276, 277, 278, 2, 279, 20, 16, 22, 280, 281, 282, 189, 190, 283, 284, 285, 19, 286, 43, 287, 288, 289, 290, 291, 292, 237, 238, 239, 40, 240, 41, 241, 136, 137, 293, 294, 295, 296, 44, 42, 45, 139, 140, 141, 142, 143, 144, 145, 146, 147, 297, 298, 299, 300, 301, 302, 303, 304, 39, 305, 306, 307, 308, 309, 310, 311, 312, 313, 314, 15, 315, 27, 242, 243, 244, 245, 730, 731, 732, 733, 755, 756, 757, 758, 759, 760, 761, 748, 749, 750, 751, 752, 753, 754] (by decide +kernel) (by decide +kernel)) (goodIn_sub (fun _ h => List.mem_append_right _ h) (by decide +kernel))
set_option maxRecDepth 20000 in
theorem gL_law_L_passSeasons : GoodIn wsL_law (va_wsS RL 147 yL_passSeasons wsL_passSeasons) := goodIn_app (goodIn_of _ (by decide +kernel)) ggL_law_L_passSeasons
set_option maxRecDepth 20000 in
theorem ggL_law_X3_passSeasons : GoodIn wsL_law wsX3_passSeasons := goodIn_r _ [319, 96, 320, 321, 101, 102, 5, 103, 110, 111, 112, 113, 322, 323, 324, 325, 97, 54, 58, 57, 326, 327, 328, 329, 156, 157, 158, 254, 255, 256, 257, 55, 50, 56, 51, 330, 331, 332, 333, 53, 334, 335, 336, 337, 163, 164, 165, 734, 735, 736, 737, 738, 739, 740, 741, 742, 743, 744, 745, 746, 747] (by decide +kernel) (by decide +kernel)
set_option maxRecDepth 20000 in
theorem gL_law_X3_passSeasons : GoodIn wsL_law (wsV RL 150 RX3 yX3_passSeasons wsX3_passSeasons) := goodIn_app (goodIn_of _ (by decide +kernel)) ggL_law_X3_passSeasons
set_option maxRecDepth 20000 in
theorem ggL_law_L_moralOf : GoodIn wsL_law wsL_moralOf := goodIn_ca (goodIn_r _ [340, 64, 341, 342, 343, 2, 344, 16, 173, 131, 132, 133, 134, 73, 74, 87, 730, 731, 732, 733, 748, 749, 750, 751, 752, 753, 754] (by decide +kernel) (by decide +kernel)) (goodIn_sub (fun _ h => List.mem_append_left _ (List.mem_append_left _ (List.mem_append_right _ h))) (by decide +kernel))
set_option maxRecDepth 20000 in
theorem gL_law_L_moralOf : GoodIn wsL_law (va_wsS RL 151 yL_moralOf wsL_moralOf) := goodIn_app (goodIn_of _ (by decide +kernel)) ggL_law_L_moralOf
set_option maxRecDepth 20000 in
theorem ggL_law_X3_moralOf : GoodIn wsL_law wsX3_moralOf := goodIn_r _ [348, 96, 50, 152, 153, 154, 5, 155, 97, 101, 102, 103, 110, 111, 112, 113, 734, 735, 736, 737, 738, 739, 740, 741, 742, 743, 744, 745, 746, 747] (by decide +kernel) (by decide +kernel)
set_option maxRecDepth 20000 in
theorem gL_law_X3_moralOf : GoodIn wsL_law (wsV RL 153 RX3 yX3_moralOf wsX3_moralOf) := goodIn_app (goodIn_of _ (by decide +kernel)) ggL_law_X3_moralOf
set_option maxRecDepth 20000 in
theorem ggL_law_L_beastsOf : GoodIn wsL_law wsL_beastsOf := goodIn_ca (goodIn_r _ [351, 64, 352, 353, 354, 2, 355, 16, 129, 131, 132, 133, 134, 73, 74, 87, 138, 139, 140, 141, 142, 143, 144, 145, 146, 147, 730, 731, 732, 733, 748, 749, 750, 751, 752, 753, 754] (by decide +kernel) (by decide +kernel)) (goodIn_sub (fun _ h => List.mem_append_left _ (List.mem_append_left _ (List.mem_append_right _ h))) (by decide +kernel))
set_option maxRecDepth 20000 in
theorem gL_law_L_beastsOf : GoodIn wsL_law (va_wsS RL 154 yL_beastsOf wsL_beastsOf) := goodIn_app (goodIn_of _ (by decide +kernel)) ggL_law_L_beastsOf
set_option maxRecDepth 20000 in
theorem ggL_law_X3_beastsOf : GoodIn wsL_law wsX3_beastsOf := goodIn_r _ [359, 96, 51, 152, 153, 154, 5, 155, 97, 101, 102, 103, 163, 164, 165, 110, 111, 112, 113, 734, 735, 736, 737, 738, 739, 740, 741, 742, 743, 744, 745, 746, 747] (by decide +kernel) (by decide +kernel)
set_option maxRecDepth 20000 in
theorem gL_law_X3_beastsOf : GoodIn wsL_law (wsV RL 156 RX3 yX3_beastsOf wsX3_beastsOf) := goodIn_app (goodIn_of _ (by decide +kernel)) ggL_law_X3_beastsOf
set_option maxRecDepth 20000 in
theorem ggL_law_L_hasBeast : GoodIn wsL_law wsL_hasBeast := goodIn_ca (goodIn_r _ [362, 64, 363, 364, 365, 2, 366, 16, 129, 131, 132, 133, 134, 73, 74, 87, 75, 76, 77, 135, 136, 137, 730, 731, 732, 733, 748, 749, 750, 751, 752, 753, 754] (by decide +kernel) (by decide +kernel)) (goodIn_sub (fun _ h => List.mem_append_left _ (List.mem_append_left _ (List.mem_append_right _ h))) (by decide +kernel))
set_option maxRecDepth 20000 in
theorem gL_law_L_hasBeast : GoodIn wsL_law (va_wsS RL 157 yL_hasBeast wsL_hasBeast) := goodIn_app (goodIn_of _ (by decide +kernel)) ggL_law_L_hasBeast
set_option maxRecDepth 20000 in
theorem ggL_law_X3_hasBeast : GoodIn wsL_law wsX3_hasBeast := goodIn_r _ [370, 96, 51, 152, 153, 154, 5, 155, 97, 101, 102, 103, 104, 105, 106, 156, 157, 158, 200, 201, 202, 203, 734, 735, 736, 737, 738, 739, 740, 741, 742, 743, 744, 745, 746, 747] (by decide +kernel) (by decide +kernel)
set_option maxRecDepth 20000 in
theorem gL_law_X3_hasBeast : GoodIn wsL_law (wsV RL 159 RX3 yX3_hasBeast wsX3_hasBeast) := goodIn_app (goodIn_of _ (by decide +kernel)) ggL_law_X3_hasBeast
set_option maxRecDepth 20000 in
theorem ggL_law_L_homeOf : GoodIn wsL_law wsL_homeOf := goodIn_ca (goodIn_r _ [373, 64, 374, 375, 376, 2, 377, 16, 378, 131, 132, 133, 134, 73, 74, 87, 730, 731, 732, 733, 748, 749, 750, 751, 752, 753, 754] (by decide +kernel) (by decide +kernel)) (goodIn_sub (fun _ h => List.mem_append_left _ (List.mem_append_left _ (List.mem_append_right _ h))) (by decide +kernel))
set_option maxRecDepth 20000 in
theorem gL_law_L_homeOf : GoodIn wsL_law (va_wsS RL 160 yL_homeOf wsL_homeOf) := goodIn_app (goodIn_of _ (by decide +kernel)) ggL_law_L_homeOf
set_option maxRecDepth 20000 in
theorem ggL_law_X3_homeOf : GoodIn wsL_law wsX3_homeOf := goodIn_r _ [382, 96, 52, 152, 153, 154, 5, 155, 97, 101, 102, 103, 110, 111, 112, 113, 734, 735, 736, 737, 738, 739, 740, 741, 742, 743, 744, 745, 746, 747] (by decide +kernel) (by decide +kernel)
set_option maxRecDepth 20000 in
theorem gL_law_X3_homeOf : GoodIn wsL_law (wsV RL 162 RX3 yX3_homeOf wsX3_homeOf) := goodIn_app (goodIn_of _ (by decide +kernel)) ggL_law_X3_homeOf
set_option maxRecDepth 20000 in
theorem ggL_law_L_parentOf : GoodIn wsL_law wsL_parentOf := goodIn_ca (goodIn_r _ [385, 64, 386, 387, 388, 2, 389, 16, 390, 131, 132, 133, 134, 73, 74, 87, 730, 731, 732, 733, 748, 749, 750, 751, 752, 753, 754] (by decide +kernel) (by decide +kernel)) (goodIn_sub (fun _ h => List.mem_append_left _ (List.mem_append_left _ (List.mem_append_right _ h))) (by decide +kernel))
set_option maxRecDepth 20000 in
theorem gL_law_L_parentOf : GoodIn wsL_law (va_wsS RL 163 yL_parentOf wsL_parentOf) := goodIn_app (goodIn_of _ (by decide +kernel)) ggL_law_L_parentOf
set_option maxRecDepth 20000 in
theorem ggL_law_X3_parentOf : GoodIn wsL_law wsX3_parentOf := goodIn_r _ [394, 96, 53, 152, 153, 154, 5, 155, 97, 101, 102, 103, 110, 111, 112, 113, 734, 735, 736, 737, 738, 739, 740, 741, 742, 743, 744, 745, 746, 747] (by decide +kernel) (by decide +kernel)
set_option maxRecDepth 20000 in
theorem gL_law_X3_parentOf : GoodIn wsL_law (wsV RL 165 RX3 yX3_parentOf wsX3_parentOf) := goodIn_app (goodIn_of _ (by decide +kernel)) ggL_law_X3_parentOf
set_option maxRecDepth 20000 in
theorem ggL_law_L_variantsOf : GoodIn wsL_law wsL_variantsOf := goodIn_ca (goodIn_r _ [397, 64, 398, 399, 400, 2, 401, 16, 130, 131, 132, 133, 134, 73, 74, 87, 138, 139, 140, 141, 142, 143, 144, 145, 146, 147, 730, 731, 732, 733, 748, 749, 750, 751, 752, 753, 754] (by decide +kernel) (by decide +kernel)) (goodIn_sub (fun _ h => List.mem_append_left _ (List.mem_append_left _ (List.mem_append_right _ h))) (by decide +kernel))
set_option maxRecDepth 20000 in
theorem gL_law_L_variantsOf : GoodIn wsL_law (va_wsS RL 166 yL_variantsOf wsL_variantsOf) := goodIn_app (goodIn_of _ (by decide +kernel)) ggL_law_L_variantsOf
set_option maxRecDepth 20000 in
theorem ggL_law_X3_variantsOf : GoodIn wsL_law wsX3_variantsOf := goodIn_r _ [405, 96, 152, 153, 154, 5, 155, 97, 101, 102, 103, 159, 160, 161, 162, 53, 110, 111, 112, 113, 734, 735, 736, 737, 738, 739, 740, 741, 742, 743, 744, 745, 746, 747] (by decide +kernel) (by decide +kernel)
set_option maxRecDepth 20000 in
theorem gL_law_X3_variantsOf : GoodIn wsL_law (wsV RL 168 RX3 yX3_variantsOf wsX3_variantsOf) := goodIn_app (goodIn_of _ (by decide +kernel)) ggL_law_X3_variantsOf
set_option maxRecDepth 20000 in
theorem ggL_law_L_valleysOf : GoodIn wsL_law wsL_valleysOf := goodIn_ca (goodIn_r _ [408, 64, 409, 410, 411, 2, 412, 20, 131, 132, 133, 134, 73, 74, 16, 87, 242, 243, 244, 19, 245, 42, 139, 140, 141, 142, 143, 144, 145, 146, 147, 730, 731, 732, 733, 748, 749, 750, 751, 752, 753, 754, 755, 756, 757, 758, 759, 760, 761] (by decide +kernel) (by decide +kernel)) (goodIn_sub (fun _ h => List.mem_append_left _ (List.mem_append_left _ (List.mem_append_right _ h))) (by decide +kernel))
set_option maxRecDepth 20000 in
theorem gL_law_L_valleysOf : GoodIn wsL_law (va_wsS RL 169 yL_valleysOf wsL_valleysOf) := goodIn_app (goodIn_of _ (by decide +kernel)) ggL_law_L_valleysOf
set_option maxRecDepth 20000 in
theorem ggL_law_X3_valleysOf : GoodIn wsL_law wsX3_valleysOf := goodIn_r _ [416, 96, 152, 153, 154, 5, 155, 97, 101, 102, 103, 258, 259, 260, 261, 54, 156, 157, 158, 110, 111, 112, 113, 734, 735, 736, 737, 738, 739, 740, 741, 742, 743, 744, 745, 746, 747] (by decide +kernel) (by decide +kernel)
set_option maxRecDepth 20000 in
theorem gL_law_X3_valleysOf : GoodIn wsL_law (wsV RL 171 RX3 yX3_valleysOf wsX3_valleysOf) := goodIn_app (goodIn_of _ (by decide +kernel)) ggL_law_X3_valleysOf
set_option maxRecDepth 20000 in
theorem ggL_law_L_nearestAncestor : GoodIn wsL_law wsL_nearestAncestor := goodIn_ca (goodIn_r _ [419, 64, 420, 421, 422, 2, 423, 16, 424, 131, 132, 133, 134, 73, 74, 87, 425, 426, 427, 135, 136, 137, 730, 731, 732, 733, 748, 749, 750, 751, 752, 753, 754] (by decide +kernel) (by decide +kernel)) (goodIn_sub (fun _ h => List.mem_append_left _ (List.mem_append_left _ (List.mem_append_right _ h))) (by decide +kernel))
set_option maxRecDepth 20000 in
theorem gL_law_L_nearestAncestor : GoodIn wsL_law (va_wsS RL 172 yL_nearestAncestor wsL_nearestAncestor) := goodIn_app (goodIn_of _ (by decide +kernel)) ggL_law_L_nearestAncestor
set_option maxRecDepth 20000 in
theorem ggL_law_X3_nearestAncestor : GoodIn wsL_law wsX3_nearestAncestor := goodIn_r _ [431, 96, 152, 153, 154, 5, 155, 97, 101, 102, 103, 432, 433, 434, 435, 436, 437, 438, 439, 53, 156, 157, 158, 110, 111, 112, 113, 734, 735, 736, 737, 738, 739, 740, 741, 742, 743, 744, 745, 746, 747] (by decide +kernel) (by decide +kernel)
set_option maxRecDepth 20000 in
theorem gL_law_X3_nearestAncestor : GoodIn wsL_law (wsV RL 174 RX3 yX3_nearestAncestor wsX3_nearestAncestor) := goodIn_app (goodIn_of _ (by decide +kernel)) ggL_law_X3_nearestAncestor
set_option maxRecDepth 20000 in
theorem ggL_law_L_kinship : GoodIn wsL_law wsL_kinship := goodIn_ca (goodIn_r _ [442, 64, 443, 444, 445, 2, 446, 16, 424, 131, 132, 133, 134, 73, 74, 87, 138, 139, 140, 141, 142, 143, 144, 145, 146, 147, 730, 731, 732, 733, 748, 749, 750, 751, 752, 753, 754] (by decide +kernel) (by decide +kernel)) (goodIn_sub (fun _ h => List.mem_append_left _ (List.mem_append_left _ (List.mem_append_right _ h))) (by decide +kernel))
set_option maxRecDepth 20000 in
theorem gL_law_L_kinship : GoodIn wsL_law (va_wsS RL 175 yL_kinship wsL_kinship) := goodIn_app (goodIn_of _ (by decide +kernel)) ggL_law_L_kinship
set_option maxRecDepth 20000 in
theorem ggL_law_X3_kinship : GoodIn wsL_law wsX3_kinship := goodIn_r _ [450, 96, 152, 153, 154, 5, 155, 97, 101, 102, 103, 110, 111, 112, 113, 432, 433, 434, 435, 436, 437, 438, 439, 53, 156, 157, 158, 163, 164, 165, 734, 735, 736, 737, 738, 739, 740, 741, 742, 743, 744, 745, 746, 747] (by decide +kernel) (by decide +kernel)
set_option maxRecDepth 20000 in
theorem gL_law_X3_kinship : GoodIn wsL_law (wsV RL 177 RX3 yX3_kinship wsX3_kinship) := goodIn_app (goodIn_of _ (by decide +kernel)) ggL_law_X3_kinship
set_option maxRecDepth 20000 in
theorem ggL_law_L_sharedBeasts : GoodIn wsL_law wsL_sharedBeasts := goodIn_ca (goodIn_r _ [453, 64, 454, 455, 456, 2, 457, 16, 129, 131, 132, 133, 134, 73, 74, 87, 138, 139, 140, 141, 142, 143, 144, 145, 146, 147, 730, 731, 732, 733, 748, 749, 750, 751, 752, 753, 754] (by decide +kernel) (by decide +kernel)) (goodIn_sub (fun _ h => List.mem_append_left _ (List.mem_append_left _ (List.mem_append_right _ h))) (by decide +kernel))
set_option maxRecDepth 20000 in
theorem gL_law_L_sharedBeasts : GoodIn wsL_law (va_wsS RL 178 yL_sharedBeasts wsL_sharedBeasts) := goodIn_app (goodIn_of _ (by decide +kernel)) ggL_law_L_sharedBeasts
set_option maxRecDepth 20000 in
theorem ggL_law_X3_sharedBeasts : GoodIn wsL_law wsX3_sharedBeasts := goodIn_r _ [461, 96, 51, 152, 153, 154, 5, 155, 97, 101, 102, 103, 163, 164, 165, 110, 111, 112, 113, 734, 735, 736, 737, 738, 739, 740, 741, 742, 743, 744, 745, 746, 747] (by decide +kernel) (by decide +kernel)
set_option maxRecDepth 20000 in
theorem gL_law_X3_sharedBeasts : GoodIn wsL_law (wsV RL 180 RX3 yX3_sharedBeasts wsX3_sharedBeasts) := goodIn_app (goodIn_of _ (by decide +kernel)) ggL_law_X3_sharedBeasts
set_option maxRecDepth 20000 in
theorem ggL_law_L_isOpen : GoodIn wsL_law wsL_isOpen := goodIn_ca (goodIn_r _ [464, 64, 465, 466, 467, 2, 468, 20, 191, 78, 79, 80, 73, 74, 135, 136, 137, 730, 731, 732, 733, 755, 756, 757, 758, 759, 760, 761] (by decide +kernel) (by decide +kernel)) (goodIn_sub (fun _ h => List.mem_append_left _ (List.mem_append_left _ (List.mem_append_right _ h))) (by decide +kernel))
set_option maxRecDepth 20000 in
theorem gL_law_L_isOpen : GoodIn wsL_law (va_wsS RL 181 yL_isOpen wsL_isOpen) := goodIn_app (goodIn_of _ (by decide +kernel)) ggL_law_L_isOpen
set_option maxRecDepth 20000 in
theorem ggL_law_X3_isOpen : GoodIn wsL_law wsX3_isOpen := goodIn_r _ [472, 96, 57, 107, 108, 5, 109, 101, 102, 103, 156, 157, 158, 200, 201, 202, 203, 734, 735, 736, 737, 738, 739, 740, 741, 742, 743, 744, 745, 746, 747] (by decide +kernel) (by decide +kernel)
set_option maxRecDepth 20000 in
theorem gL_law_X3_isOpen : GoodIn wsL_law (wsV RL 183 RX3 yX3_isOpen wsX3_isOpen) := goodIn_app (goodIn_of _ (by decide +kernel)) ggL_law_X3_isOpen
set_option maxRecDepth 20000 in
theorem ggL_law_L_isBanned : GoodIn wsL_law wsL_isBanned := goodIn_ca (goodIn_r _ [475, 64, 476, 477, 478, 2, 479, 20, 16, 131, 132, 133, 134, 73, 74, 87, 78, 79, 80, 236, 237, 238, 19, 239, 40, 240, 41, 241, 136, 137, 730, 731, 732, 733, 748, 749, 750, 751, 752, 753, 754, 755, 756, 757, 758, 759, 760, 761] (by decide +kernel) (by decide +kernel)) (goodIn_sub (fun _ h => List.mem_append_left _ (List.mem_append_left _ (List.mem_append_right _ h))) (by decide +kernel))
set_option maxRecDepth 20000 in
theorem gL_law_L_isBanned : GoodIn wsL_law (va_wsS RL 184 yL_isBanned wsL_isBanned) := goodIn_app (goodIn_of _ (by decide +kernel)) ggL_law_L_isBanned
set_option maxRecDepth 20000 in
theorem ggL_law_X3_isBanned : GoodIn wsL_law wsX3_isBanned := goodIn_r _ [483, 96, 250, 251, 252, 5, 253, 152, 153, 154, 155, 97, 101, 102, 103, 107, 108, 109, 254, 255, 256, 257, 55, 50, 56, 51, 156, 157, 158, 200, 201, 202, 203, 734, 735, 736, 737, 738, 739, 740, 741, 742, 743, 744, 745, 746, 747] (by decide +kernel) (by decide +kernel)
set_option maxRecDepth 20000 in
theorem gL_law_X3_isBanned : GoodIn wsL_law (wsV RL 186 RX3 yX3_isBanned wsX3_isBanned) := goodIn_app (goodIn_of _ (by decide +kernel)) ggL_law_X3_isBanned
set_option maxRecDepth 20000 in
theorem ggL_law_L_isTold : GoodIn wsL_law wsL_isTold := goodIn_ca (goodIn_r _ [486, 64, 487, 488, 489, 2, 490, 20, 235, 131, 132, 133, 134, 73, 74, 16, 87, 78, 79, 80, 135, 136, 137, 730, 731, 732, 733, 755, 756, 757, 758, 759, 760, 761, 748, 749, 750, 751, 752, 753, 754] (by decide +kernel) (by decide +kernel)) (goodIn_sub (fun _ h => List.mem_append_left _ (List.mem_append_left _ (List.mem_append_right _ h))) (by decide +kernel))
set_option maxRecDepth 20000 in
theorem gL_law_L_isTold : GoodIn wsL_law (va_wsS RL 187 yL_isTold wsL_isTold) := goodIn_app (goodIn_of _ (by decide +kernel)) ggL_law_L_isTold
set_option maxRecDepth 20000 in
theorem ggL_law_X3_isTold : GoodIn wsL_law wsX3_isTold := goodIn_r _ [494, 96, 54, 250, 251, 252, 5, 253, 152, 153, 154, 155, 97, 101, 102, 103, 107, 108, 109, 156, 157, 158, 200, 201, 202, 203, 734, 735, 736, 737, 738, 739, 740, 741, 742, 743, 744, 745, 746, 747] (by decide +kernel) (by decide +kernel)
set_option maxRecDepth 20000 in
theorem gL_law_X3_isTold : GoodIn wsL_law (wsV RL 189 RX3 yX3_isTold wsX3_isTold) := goodIn_app (goodIn_of _ (by decide +kernel)) ggL_law_X3_isTold
set_option maxRecDepth 20000 in
theorem ggL_law_L_toldIn : GoodIn wsL_law wsL_toldIn := goodIn_ca (goodIn_r _ [497, 64, 498, 499, 500, 2, 501, 20, 235, 78, 79, 80, 73, 74, 138, 139, 140, 141, 142, 143, 144, 145, 146, 147, 730, 731, 732, 733, 755, 756, 757, 758, 759, 760, 761] (by decide +kernel) (by decide +kernel)) (goodIn_sub (fun _ h => List.mem_append_left _ (List.mem_append_left _ (List.mem_append_right _ h))) (by decide +kernel))
set_option maxRecDepth 20000 in
theorem gL_law_L_toldIn : GoodIn wsL_law (va_wsS RL 190 yL_toldIn wsL_toldIn) := goodIn_app (goodIn_of _ (by decide +kernel)) ggL_law_L_toldIn
set_option maxRecDepth 20000 in
theorem ggL_law_X3_toldIn : GoodIn wsL_law wsX3_toldIn := goodIn_r _ [505, 96, 54, 107, 108, 5, 109, 101, 102, 103, 163, 164, 165, 110, 111, 112, 113, 734, 735, 736, 737, 738, 739, 740, 741, 742, 743, 744, 745, 746, 747] (by decide +kernel) (by decide +kernel)
set_option maxRecDepth 20000 in
theorem gL_law_X3_toldIn : GoodIn wsL_law (wsV RL 192 RX3 yX3_toldIn wsX3_toldIn) := goodIn_app (goodIn_of _ (by decide +kernel)) ggL_law_X3_toldIn
set_option maxRecDepth 20000 in
theorem ggL_law_L_allowedIn : GoodIn wsL_law wsL_allowedIn := goodIn_ca (goodIn_r _ [508, 64, 509, 510, 511, 2, 512, 20, 16, 78, 79, 80, 73, 74, 513, 288, 289, 19, 290, 291, 292, 237, 238, 239, 40, 240, 41, 241, 136, 137, 138, 139, 140, 141, 142, 143, 144, 145, 146, 147, 730, 731, 732, 733, 748, 749, 750, 751, 752, 753, 754, 755, 756, 757, 758, 759, 760, 761] (by decide +kernel) (by decide +kernel)) (goodIn_sub (fun _ h => List.mem_append_left _ (List.mem_append_left _ (List.mem_append_right _ h))) (by decide +kernel))
set_option maxRecDepth 20000 in
theorem gL_law_L_allowedIn : GoodIn wsL_law (va_wsS RL 193 yL_allowedIn wsL_allowedIn) := goodIn_app (goodIn_of _ (by decide +kernel)) ggL_law_L_allowedIn
set_option maxRecDepth 20000 in
theorem ggL_law_X3_allowedIn : GoodIn wsL_law wsX3_allowedIn := goodIn_r _ [517, 96, 107, 108, 5, 109, 101, 102, 103, 518, 519, 520, 521, 97, 254, 255, 256, 257, 55, 50, 56, 51, 156, 157, 158, 110, 111, 112, 113, 734, 735, 736, 737, 738, 739, 740, 741, 742, 743, 744, 745, 746, 747] (by decide +kernel) (by decide +kernel)
set_option maxRecDepth 20000 in
theorem gL_law_X3_allowedIn : GoodIn wsL_law (wsV RL 195 RX3 yX3_allowedIn wsX3_allowedIn) := goodIn_app (goodIn_of _ (by decide +kernel)) ggL_law_X3_allowedIn
set_option maxRecDepth 20000 in
theorem ggL_law_L_bansOf : GoodIn wsL_law wsL_bansOf := goodIn_ca (goodIn_r _ [524, 64, 525, 526, 527, 2, 528, 20, 211, 223, 78, 79, 80, 73, 74, 138, 139, 140, 141, 142, 143, 144, 145, 146, 147, 730, 731, 732, 733, 755, 756, 757, 758, 759, 760, 761] (by decide +kernel) (by decide +kernel)) (goodIn_sub (fun _ h => List.mem_append_left _ (List.mem_append_left _ (List.mem_append_right _ h))) (by decide +kernel))
set_option maxRecDepth 20000 in
theorem gL_law_L_bansOf : GoodIn wsL_law (va_wsS RL 196 yL_bansOf wsL_bansOf) := goodIn_app (goodIn_of _ (by decide +kernel)) ggL_law_L_bansOf
set_option maxRecDepth 20000 in
theorem ggL_law_X3_bansOf : GoodIn wsL_law wsX3_bansOf := goodIn_r _ [532, 96, 107, 108, 5, 109, 101, 102, 103, 533, 534, 535, 536, 55, 56, 163, 164, 165, 110, 111, 112, 113, 734, 735, 736, 737, 738, 739, 740, 741, 742, 743, 744, 745, 746, 747] (by decide +kernel) (by decide +kernel)
set_option maxRecDepth 20000 in
theorem gL_law_X3_bansOf : GoodIn wsL_law (wsV RL 198 RX3 yX3_bansOf wsX3_bansOf) := goodIn_app (goodIn_of _ (by decide +kernel)) ggL_law_X3_bansOf
set_option maxRecDepth 20000 in
theorem ggL_law_X2_fables : GoodIn wsL_law wsX2_fables := goodIn_r _ [540, 16, 87, 730, 731, 732, 733, 748, 749, 750, 751, 752, 753, 754] (by decide +kernel) (by decide +kernel)
set_option maxRecDepth 20000 in
theorem gL_law_X2_fables : GoodIn wsL_law (wsV RL 199 RX2 yX2_fables wsX2_fables) := goodIn_app (goodIn_of _ (by decide +kernel)) ggL_law_X2_fables
set_option maxRecDepth 20000 in
theorem ggL_law_X3_fables : GoodIn wsL_law wsX3_fables := goodIn_r _ [544, 96, 97, 734, 735, 736, 737, 738, 739, 740, 741, 742, 743, 744, 745, 746, 747] (by decide +kernel) (by decide +kernel)
set_option maxRecDepth 20000 in
theorem gL_law_X3_fables : GoodIn wsL_law (wsV RL 202 RX3 yX3_fables wsX3_fables) := goodIn_app (goodIn_of _ (by decide +kernel)) ggL_law_X3_fables
set_option maxRecDepth 20000 in
theorem ggL_law_X2_season : GoodIn wsL_law wsX2_season := goodIn_r _ [548, 22, 730, 731, 732, 733] (by decide +kernel) (by decide +kernel)
set_option maxRecDepth 20000 in
theorem gL_law_X2_season : GoodIn wsL_law (wsV RL 203 RX2 yX2_season wsX2_season) := goodIn_app (goodIn_of _ (by decide +kernel)) ggL_law_X2_season
set_option maxRecDepth 20000 in
theorem ggL_law_X3_season : GoodIn wsL_law wsX3_season := goodIn_r _ [552, 96, 321, 734, 735, 736, 737, 738, 739, 740, 741, 742, 743, 744, 745, 746, 747] (by decide +kernel) (by decide +kernel)
set_option maxRecDepth 20000 in
theorem gL_law_X3_season : GoodIn wsL_law (wsV RL 206 RX3 yX3_season wsX3_season) := goodIn_app (goodIn_of _ (by decide +kernel)) ggL_law_X3_season
set_option maxRecDepth 20000 in
theorem ggL_law_X2_tellings : GoodIn wsL_law wsX2_tellings := goodIn_r _ [556, 20, 16, 312, 313, 314, 15, 315, 27, 242, 243, 244, 19, 245, 42, 139, 2, 140, 141, 142, 143, 144, 145, 146, 147, 730, 731, 732, 733, 748, 749, 750, 751, 752, 753, 754, 755, 756, 757, 758, 759, 760, 761] (by decide +kernel) (by decide +kernel)
set_option maxRecDepth 20000 in
theorem gL_law_X2_tellings : GoodIn wsL_law (wsV RL 207 RX2 yX2_tellings wsX2_tellings) := goodIn_app (goodIn_of _ (by decide +kernel)) ggL_law_X2_tellings
set_option maxRecDepth 20000 in
theorem ggL_law_X3_tellings : GoodIn wsL_law wsX3_tellings := goodIn_r _ [560, 96, 334, 335, 336, 5, 337, 54, 163, 164, 165, 734, 735, 736, 737, 738, 739, 740, 741, 742, 743, 744, 745, 746, 747] (by decide +kernel) (by decide +kernel)
set_option maxRecDepth 20000 in
theorem gL_law_X3_tellings : GoodIn wsL_law (wsV RL 210 RX3 yX3_tellings wsX3_tellings) := goodIn_app (goodIn_of _ (by decide +kernel)) ggL_law_X3_tellings
set_option maxRecDepth 20000 in
theorem ggL_law_X2_silenced : GoodIn wsL_law wsX2_silenced := goodIn_r _ [564, 20, 565, 730, 731, 732, 733, 755, 756, 757, 758, 759, 760, 761] (by decide +kernel) (by decide +kernel)
set_option maxRecDepth 20000 in
theorem gL_law_X2_silenced : GoodIn wsL_law (wsV RL 211 RX2 yX2_silenced wsX2_silenced) := goodIn_app (goodIn_of _ (by decide +kernel)) ggL_law_X2_silenced
set_option maxRecDepth 20000 in
theorem ggL_law_X3_silenced : GoodIn wsL_law wsX3_silenced := goodIn_r _ [569, 96, 320, 734, 735, 736, 737, 738, 739, 740, 741, 742, 743, 744, 745, 746, 747] (by decide +kernel) (by decide +kernel)
set_option maxRecDepth 20000 in
theorem gL_law_X3_silenced : GoodIn wsL_law (wsV RL 214 RX3 yX3_silenced wsX3_silenced) := goodIn_app (goodIn_of _ (by decide +kernel)) ggL_law_X3_silenced
set_option maxRecDepth 20000 in
theorem ggL_law_L_fablesWithMoral : GoodIn wsL_law wsL_fablesWithMoral := goodIn_ca (goodIn_r _ [572, 64, 573, 574, 575, 2, 576, 16, 70, 71, 72, 73, 74, 577, 578, 579, 15, 580, 27, 29, 138, 139, 140, 141, 142, 143, 144, 145, 146, 147, 730, 731, 732, 733, 748, 749, 750, 751, 752, 753, 754] (by decide +kernel) (by decide +kernel)) (goodIn_sub (fun _ h => List.mem_append_left _ (List.mem_append_left _ (List.mem_append_right _ h))) (by decide +kernel))
set_option maxRecDepth 20000 in
theorem gL_law_L_fablesWithMoral : GoodIn wsL_law (va_wsS RL 215 yL_fablesWithMoral wsL_fablesWithMoral) := goodIn_app (goodIn_of _ (by decide +kernel)) ggL_law_L_fablesWithMoral
set_option maxRecDepth 20000 in
theorem ggL_law_X3_fablesWithMoral : GoodIn wsL_law wsX3_fablesWithMoral := goodIn_r _ [584, 96, 97, 50, 98, 99, 5, 100, 101, 102, 103, 110, 111, 112, 113, 734, 735, 736, 737, 738, 739, 740, 741, 742, 743, 744, 745, 746, 747] (by decide +kernel) (by decide +kernel)
set_option maxRecDepth 20000 in
theorem gL_law_X3_fablesWithMoral : GoodIn wsL_law (wsV RL 217 RX3 yX3_fablesWithMoral wsX3_fablesWithMoral) := goodIn_app (goodIn_of _ (by decide +kernel)) ggL_law_X3_fablesWithMoral
set_option maxRecDepth 20000 in
theorem ggL_law_L_fablesWithBeast : GoodIn wsL_law wsL_fablesWithBeast := goodIn_ca (goodIn_r _ [587, 64, 588, 589, 590, 2, 591, 16, 75, 76, 77, 73, 74, 592, 593, 594, 15, 595, 27, 30, 136, 137, 138, 139, 140, 141, 142, 143, 144, 145, 146, 147, 730, 731, 732, 733, 748, 749, 750, 751, 752, 753, 754] (by decide +kernel) (by decide +kernel)) (goodIn_sub (fun _ h => List.mem_append_left _ (List.mem_append_left _ (List.mem_append_right _ h))) (by decide +kernel))
set_option maxRecDepth 20000 in
theorem gL_law_L_fablesWithBeast : GoodIn wsL_law (va_wsS RL 218 yL_fablesWithBeast wsL_fablesWithBeast) := goodIn_app (goodIn_of _ (by decide +kernel)) ggL_law_L_fablesWithBeast
set_option maxRecDepth 20000 in
theorem ggL_law_X3_fablesWithBeast : GoodIn wsL_law wsX3_fablesWithBeast := goodIn_r _ [599, 96, 97, 51, 104, 105, 5, 106, 101, 102, 103, 110, 111, 112, 113, 156, 157, 158, 734, 735, 736, 737, 738, 739, 740, 741, 742, 743, 744, 745, 746, 747] (by decide +kernel) (by decide +kernel)
set_option maxRecDepth 20000 in
theorem gL_law_X3_fablesWithBeast : GoodIn wsL_law (wsV RL 220 RX3 yX3_fablesWithBeast wsX3_fablesWithBeast) := goodIn_app (goodIn_of _ (by decide +kernel)) ggL_law_X3_fablesWithBeast
set_option maxRecDepth 20000 in
theorem ggL_law_X2_favouriteMoral : GoodIn wsL_law wsX2_favouriteMoral := goodIn_r _ [603, 20, 16, 577, 578, 579, 15, 580, 27, 29, 242, 243, 244, 19, 245, 42, 139, 2, 140, 141, 142, 143, 144, 145, 146, 147, 730, 731, 732, 733, 748, 749, 750, 751, 752, 753, 754, 755, 756, 757, 758, 759, 760, 761] (by decide +kernel) (by decide +kernel)
set_option maxRecDepth 20000 in
theorem gL_law_X2_favouriteMoral : GoodIn wsL_law (wsV RL 221 RX2 yX2_favouriteMoral wsX2_favouriteMoral) := goodIn_app (goodIn_of _ (by decide +kernel)) ggL_law_X2_favouriteMoral
set_option maxRecDepth 20000 in
theorem ggL_law_X3_favouriteMoral : GoodIn wsL_law wsX3_favouriteMoral := goodIn_r _ [607, 96, 608, 609, 610, 5, 611, 97, 50, 51, 156, 157, 158, 258, 259, 260, 261, 54, 734, 735, 736, 737, 738, 739, 740, 741, 742, 743, 744, 745, 746, 747] (by decide +kernel) (by decide +kernel)
set_option maxRecDepth 20000 in
theorem gL_law_X3_favouriteMoral : GoodIn wsL_law (wsV RL 224 RX3 yX3_favouriteMoral wsX3_favouriteMoral) := goodIn_app (goodIn_of _ (by decide +kernel)) ggL_law_X3_favouriteMoral
set_option maxRecDepth 20000 in
theorem ggL_law_X2_favouriteBeast : GoodIn wsL_law wsX2_favouriteBeast := goodIn_r _ [615, 20, 16, 592, 593, 594, 15, 595, 27, 30, 136, 2, 137, 242, 243, 244, 19, 245, 42, 139, 140, 141, 142, 143, 144, 145, 146, 147, 730, 731, 732, 733, 748, 749, 750, 751, 752, 753, 754, 755, 756, 757, 758, 759, 760, 761] (by decide +kernel) (by decide +kernel)
set_option maxRecDepth 20000 in
theorem gL_law_X2_favouriteBeast : GoodIn wsL_law (wsV RL 225 RX2 yX2_favouriteBeast wsX2_favouriteBeast) := goodIn_app (goodIn_of _ (by decide +kernel)) ggL_law_X2_favouriteBeast
set_option maxRecDepth 20000 in
theorem ggL_law_X3_favouriteBeast : GoodIn wsL_law wsX3_favouriteBeast := goodIn_r _ [619, 96, 608, 609, 610, 5, 611, 97, 50, 51, 156, 157, 158, 258, 259, 260, 261, 54, 734, 735, 736, 737, 738, 739, 740, 741, 742, 743, 744, 745, 746, 747] (by decide +kernel) (by decide +kernel)
set_option maxRecDepth 20000 in
theorem gL_law_X3_favouriteBeast : GoodIn wsL_law (wsV RL 228 RX3 yX3_favouriteBeast wsX3_favouriteBeast) := goodIn_app (goodIn_of _ (by decide +kernel)) ggL_law_X3_favouriteBeast
set_option maxRecDepth 20000 in
theorem ggL_law_L_seasonsUntil : GoodIn wsL_law wsL_seasonsUntil := goodIn_ca (goodIn_r _ [622, 64, 623, 624, 625, 2, 626, 21, 20, 235, 16, 131, 132, 133, 134, 73, 74, 87, 78, 79, 80, 627, 628, 629, 19, 630, 39, 40, 41, 42, 45, 135, 136, 137, 283, 284, 285, 286, 43, 287, 288, 289, 290, 291, 292, 237, 238, 239, 240, 241, 293, 294, 295, 296, 44, 139, 140, 141, 142, 143, 144, 145, 146, 147, 297, 298, 299, 300, 301, 302, 303, 304, 305, 306, 307, 308, 309, 310, 311, 730, 731, 732, 733, 755, 756, 757, 758, 759, 760, 761, 748, 749, 750, 751, 752, 753, 754] (by decide +kernel) (by decide +kernel)) (goodIn_sub (fun _ h => List.mem_append_left _ (List.mem_append_left _ (List.mem_append_right _ h))) (by decide +kernel))
set_option maxRecDepth 20000 in
theorem gL_law_L_seasonsUntil : GoodIn wsL_law (va_wsS RL 229 yL_seasonsUntil wsL_seasonsUntil) := goodIn_app (goodIn_of _ (by decide +kernel)) ggL_law_L_seasonsUntil
set_option maxRecDepth 20000 in
theorem ggL_law_X3_seasonsUntil : GoodIn wsL_law wsX3_seasonsUntil := goodIn_r _ [634, 96, 54, 250, 251, 252, 5, 253, 152, 153, 154, 155, 97, 101, 102, 103, 107, 108, 109, 110, 111, 112, 113, 635, 636, 637, 638, 59, 326, 327, 328, 329, 156, 157, 158, 322, 323, 324, 325, 58, 57, 254, 255, 256, 257, 55, 50, 56, 51, 330, 331, 332, 333, 53, 639, 640, 641, 642, 734, 735, 736, 737, 738, 739, 740, 741, 742, 743, 744, 745, 746, 747] (by decide +kernel) (by decide +kernel)
set_option maxRecDepth 20000 in
theorem gL_law_X3_seasonsUntil : GoodIn wsL_law (wsV RL 231 RX3 yX3_seasonsUntil wsX3_seasonsUntil) := goodIn_app (goodIn_of _ (by decide +kernel)) ggL_law_X3_seasonsUntil
set_option maxRecDepth 20000 in
theorem ggL_law_L_tellingsAfter : GoodIn wsL_law wsL_tellingsAfter := goodIn_ca (goodIn_r _ [645, 184, 646, 647, 648, 2, 649, 21, 20, 280, 281, 282, 189, 190, 627, 628, 629, 19, 630, 39, 40, 41, 42, 45, 650, 651, 652, 653, 16, 283, 284, 285, 286, 43, 287, 288, 289, 290, 291, 292, 237, 238, 239, 240, 241, 136, 137, 293, 294, 295, 296, 44, 139, 140, 141, 142, 143, 144, 145, 146, 147, 297, 298, 299, 300, 301, 302, 303, 304, 305, 306, 307, 308, 309, 310, 311, 312, 313, 314, 15, 315, 27, 242, 243, 244, 245, 730, 731, 732, 733, 755, 756, 757, 758, 759, 760, 761, 748, 749, 750, 751, 752, 753, 754] (by decide +kernel) (by decide +kernel)) (goodIn_sub (fun _ h => List.mem_append_right _ h) (by decide +kernel))
set_option maxRecDepth 20000 in
theorem gL_law_L_tellingsAfter : GoodIn wsL_law (va_wsS RL 232 yL_tellingsAfter wsL_tellingsAfter) := goodIn_app (goodIn_of _ (by decide +kernel)) ggL_law_L_tellingsAfter
set_option maxRecDepth 20000 in
theorem ggL_law_X3_tellingsAfter : GoodIn wsL_law wsX3_tellingsAfter := goodIn_r _ [657, 96, 101, 102, 5, 103, 658, 659, 660, 661, 635, 636, 637, 638, 54, 59, 326, 327, 328, 329, 322, 323, 324, 325, 97, 58, 57, 156, 157, 158, 254, 255, 256, 257, 55, 50, 56, 51, 330, 331, 332, 333, 53, 334, 335, 336, 337, 163, 164, 165, 639, 640, 641, 642, 110, 111, 112, 113, 734, 735, 736, 737, 738, 739, 740, 741, 742, 743, 744, 745, 746, 747] (by decide +kernel) (by decide +kernel)
set_option maxRecDepth 20000 in
theorem gL_law_X3_tellingsAfter : GoodIn wsL_law (wsV RL 234 RX3 yX3_tellingsAfter wsX3_tellingsAfter) := goodIn_app (goodIn_of _ (by decide +kernel)) ggL_law_X3_tellingsAfter
set_option maxRecDepth 20000 in
theorem ggL_law_L_bestPass : GoodIn wsL_law wsL_bestPass := goodIn_ca (goodIn_r _ [664, 184, 665, 666, 667, 2, 668, 21, 20, 191, 280, 281, 282, 189, 190, 627, 628, 629, 19, 630, 39, 40, 41, 42, 45, 650, 651, 652, 653, 16, 283, 284, 285, 286, 43, 287, 288, 289, 290, 291, 292, 237, 238, 239, 240, 241, 136, 137, 293, 294, 295, 296, 44, 139, 140, 141, 142, 143, 144, 145, 146, 147, 297, 298, 299, 300, 301, 302, 303, 304, 305, 306, 307, 308, 309, 310, 311, 312, 313, 314, 15, 315, 27, 242, 243, 244, 245, 135, 669, 670, 671, 672, 192, 193, 194, 195, 175, 176, 730, 731, 732, 733, 755, 756, 757, 758, 759, 760, 761, 748, 749, 750, 751, 752, 753, 754] (by decide +kernel) (by decide +kernel)) (goodIn_sub (fun _ h => List.mem_append_right _ h) (by decide +kernel))
set_option maxRecDepth 20000 in
theorem gL_law_L_bestPass : GoodIn wsL_law (va_wsS RL 235 yL_bestPass wsL_bestPass) := goodIn_app (goodIn_of _ (by decide +kernel)) ggL_law_L_bestPass
set_option maxRecDepth 20000 in
theorem ggL_law_X3_bestPass : GoodIn wsL_law wsX3_bestPass := goodIn_r _ [676, 96, 57, 101, 102, 5, 103, 110, 111, 112, 113, 658, 659, 660, 661, 635, 636, 637, 638, 54, 59, 326, 327, 328, 329, 322, 323, 324, 325, 97, 58, 156, 157, 158, 254, 255, 256, 257, 55, 50, 56, 51, 330, 331, 332, 333, 53, 334, 335, 336, 337, 163, 164, 165, 639, 640, 641, 642, 734, 735, 736, 737, 738, 739, 740, 741, 742, 743, 744, 745, 746, 747] (by decide +kernel) (by decide +kernel)
set_option maxRecDepth 20000 in
theorem gL_law_X3_bestPass : GoodIn wsL_law (wsV RL 237 RX3 yX3_bestPass wsX3_bestPass) := goodIn_app (goodIn_of _ (by decide +kernel)) ggL_law_X3_bestPass
set_option maxRecDepth 20000 in
theorem ggL_law_X2_meanBeasts : GoodIn wsL_law wsX2_meanBeasts := goodIn_r _ [680, 16, 87, 129, 138, 139, 2, 140, 141, 142, 143, 144, 145, 146, 147, 730, 731, 732, 733, 748, 749, 750, 751, 752, 753, 754] (by decide +kernel) (by decide +kernel)
set_option maxRecDepth 20000 in
theorem gL_law_X2_meanBeasts : GoodIn wsL_law (wsV RL 238 RX2 yX2_meanBeasts wsX2_meanBeasts) := goodIn_app (goodIn_of _ (by decide +kernel)) ggL_law_X2_meanBeasts
set_option maxRecDepth 20000 in
theorem ggL_law_X3_meanBeasts : GoodIn wsL_law wsX3_meanBeasts := goodIn_r _ [684, 96, 97, 51, 163, 164, 5, 165, 734, 735, 736, 737, 738, 739, 740, 741, 742, 743, 744, 745, 746, 747] (by decide +kernel) (by decide +kernel)
set_option maxRecDepth 20000 in
theorem gL_law_X3_meanBeasts : GoodIn wsL_law (wsV RL 242 RX3 yX3_meanBeasts wsX3_meanBeasts) := goodIn_app (goodIn_of _ (by decide +kernel)) ggL_law_X3_meanBeasts
set_option maxRecDepth 20000 in
theorem ggL_law_X2_digest : GoodIn wsL_law wsX2_digest := goodIn_ca (goodIn_r _ [688, 689, 16, 87, 690, 538, 539, 2, 540, 691, 692, 693, 694, 695, 546, 547, 548, 22, 696, 554, 555, 556, 20, 312, 313, 314, 15, 315, 27, 242, 243, 244, 19, 245, 42, 139, 140, 141, 142, 143, 144, 145, 146, 147, 697, 562, 563, 564, 565, 698, 601, 602, 603, 577, 578, 579, 580, 29, 699, 613, 614, 615, 592, 593, 594, 595, 30, 136, 137, 700, 701, 702, 703, 704, 342, 343, 344, 173, 131, 132, 133, 134, 73, 74, 705, 353, 354, 355, 129, 138, 706, 375, 376, 377, 378, 707, 387, 388, 389, 390, 708, 399, 400, 401, 130, 709, 410, 411, 412, 710, 364, 365, 366, 75, 76, 77, 135, 711, 488, 489, 490, 235, 78, 79, 80, 712, 477, 478, 479, 236, 237, 238, 239, 40, 240, 41, 241, 713, 714, 715, 716, 717, 499, 500, 501, 718, 510, 511, 512, 513, 288, 289, 290, 291, 292, 719, 526, 527, 528, 211, 223, 720, 466, 467, 468, 191, 730, 731, 732, 733, 748, 749, 750, 751, 752, 753, 754, 755, 756, 757, 758, 759, 760, 761] (by decide +kernel) (by decide +kernel)) (goodIn_sub (fun _ h => List.mem_append_left _ (List.mem_append_left _ (List.mem_append_right _ h))) (by decide +kernel))
set_option maxRecDepth 20000 in
theorem gL_law_X2_digest : GoodIn wsL_law (wsV RL 243 RX2 yX2_digest wsX2_digest) := goodIn_app (goodIn_of _ (by decide +kernel)) ggL_law_X2_digest
set_option maxRecDepth 20000 in
theorem ggL_law_X3_digest : GoodIn wsL_law wsX3_digest := goodIn_r _ [724, 96, 28, 97, 321, 320, 725, 726, 50, 51, 52, 53, 54, 57, 334, 335, 336, 5, 337, 163, 164, 165, 608, 609, 610, 611, 156, 157, 158, 258, 259, 260, 261, 159, 160, 161, 162, 727, 728, 729, 254, 255, 256, 257, 55, 56, 518, 519, 520, 521, 533, 534, 535, 536, 734, 735, 736, 737, 738, 739, 740, 741, 742, 743, 744, 745, 746, 747] (by decide +kernel) (by decide +kernel)
set_option maxRecDepth 20000 in
theorem gL_law_X3_digest : GoodIn wsL_law (wsV RL 247 RX3 yX3_digest wsX3_digest) := goodIn_app (goodIn_of _ (by decide +kernel)) ggL_law_X3_digest
