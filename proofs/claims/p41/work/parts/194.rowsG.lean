set_option maxRecDepth 20000 in
theorem ggL_law_X2_init : GoodIn wsL_law wsX2_init := goodIn_r _ [7, 8, 9, 10, 11, 12, 13, 14, 15, 16, 17, 18, 19, 20, 21, 22, 23, 24, 25, 26, 27, 28, 29, 30, 31, 32, 33, 34, 35, 36, 37, 38, 39, 40, 41, 42, 43, 403, 404, 405, 406, 407, 408, 409, 399, 400, 401, 402, 410, 411, 412, 413, 414, 415, 416] (by decide +kernel) (by decide +kernel)
set_option maxRecDepth 20000 in
theorem gL_law_X2_init : GoodIn wsL_law (wsX2_init) := ggL_law_X2_init
set_option maxRecDepth 20000 in
theorem ggL_law_L_build_c0 : GoodIn wsL_law (.code yL_build cL_build 5 (some (.object "FableIndexLaw$Sim")) :: wsL_build_r1) := goodIn_r _ [47, 48, 49, 50, 51, 52, 53, 9, 10, 54, 55, 56, 57, 58, 4, 59, 60, 61, 62, 63, 64, 46, 65, 66, 67] (by decide +kernel) (by decide +kernel)
set_option maxRecDepth 20000 in
theorem ggL_law_L_build_c1 : GoodIn wsL_law wsL_build_r2 := goodIn_r _ [68, 69, 70, 71, 72, 73, 74, 75, 26, 76, 77, 78, 79, 80, 81, 82, 83, 84, 85, 86, 87, 88, 89, 2] rfl (by decide +kernel)
set_option maxRecDepth 20000 in
theorem ggL_law_L_build_c2 : GoodIn wsL_law wsL_build_r3 := goodIn_r _ [90, 14, 91, 92, 93, 94, 95, 96, 97, 98, 99, 100, 101, 102, 103, 104, 105, 106, 107, 108, 109, 110, 111, 13] (by decide +kernel) (by decide +kernel)
set_option maxRecDepth 20000 in
theorem ggL_law_L_build_c3 : GoodIn wsL_law wsL_build_r4 := goodIn_r _ [112, 25, 27, 28, 29, 30, 31, 32, 113, 114, 115, 116, 117, 118, 119, 120, 121, 122, 123, 124, 125, 126, 127, 128] (by decide +kernel) (by decide +kernel)
set_option maxRecDepth 20000 in
theorem ggL_law_L_build_c4 : GoodIn wsL_law wsL_build_r5 := goodIn_r _ [129, 130, 131, 132, 133, 134, 135, 136, 137, 138, 139, 140, 141, 142, 143, 144, 145, 146, 147, 148, 149, 150, 151, 152] (by decide +kernel) (by decide +kernel)
set_option maxRecDepth 20000 in
theorem ggL_law_L_build_c5 : GoodIn wsL_law wsL_build_r6 := goodIn_r _ [153, 154, 155, 156, 157, 158, 18, 159, 160, 161, 162, 17, 163, 37, 164, 165, 166, 167, 168, 169, 170, 171, 172, 173] (by decide +kernel) (by decide +kernel)
set_option maxRecDepth 20000 in
theorem ggL_law_L_build_c6 : GoodIn wsL_law wsL_build_r7 := goodIn_r _ [174, 175, 176, 177, 178, 179, 180, 181, 182, 183, 184, 185, 186, 38, 187, 39, 188, 189, 190, 191, 192, 40, 193, 194] (by decide +kernel) (by decide +kernel)
set_option maxRecDepth 20000 in
theorem ggL_law_L_build_c7 : GoodIn wsL_law wsL_build_r8 := goodIn_r _ [195, 196, 197, 198, 199, 200, 201, 202, 203, 204, 20, 205, 206, 207, 208, 209, 210, 211, 41, 212, 213, 214, 215, 216] (by decide +kernel) (by decide +kernel)
set_option maxRecDepth 20000 in
theorem ggL_law_L_build_c8 : GoodIn wsL_law wsL_build_r9 := goodIn_r _ [217, 218, 219, 220, 221, 42, 43, 222, 223, 224, 225, 226, 227, 228, 229, 230, 231, 232, 233, 234, 235, 236, 237, 238] (by decide +kernel) (by decide +kernel)
set_option maxRecDepth 20000 in
theorem ggL_law_L_build_c9 : GoodIn wsL_law wsL_build_r10 := goodIn_r _ [239, 240, 241, 242, 243, 244, 245, 246, 247, 248, 249, 250, 251, 252, 253, 254, 255, 256] (by decide +kernel) (by decide +kernel)
set_option maxRecDepth 20000 in
theorem ggL_law_L_build_wsX30 : GoodIn wsL_law wsX30 := goodIn_r _ [417, 418, 419, 420, 421, 422, 423, 424, 425] (by decide +kernel) (by decide +kernel)
set_option maxRecDepth 20000 in
theorem ggL_law_L_build_wsX20 : GoodIn wsL_law wsX20 := goodIn_r _ [399, 400, 401, 402] (by decide +kernel) (by decide +kernel)
set_option maxRecDepth 20000 in
theorem ggL_law_L_build_wsX00 : GoodIn wsL_law wsX00 := goodIn_r _ [403, 404, 405, 406, 407, 408, 409] (by decide +kernel) (by decide +kernel)
set_option maxRecDepth 20000 in
theorem ggL_law_L_build_wsX10 : GoodIn wsL_law wsX10 := goodIn_r _ [410, 411, 412, 413, 414, 415, 416] (by decide +kernel) (by decide +kernel)
set_option maxRecDepth 20000 in
theorem ggL_law_L_build : GoodIn wsL_law wsL_build := goodIn_ca (goodIn_ca (goodIn_ca (goodIn_ca (goodIn_ca (goodIn_ca (goodIn_ca (goodIn_ca ggL_law_L_build_c0 (goodIn_app ggL_law_L_build_c1 (goodIn_app ggL_law_L_build_c2 (goodIn_app ggL_law_L_build_c3 (goodIn_app ggL_law_L_build_c4 (goodIn_app ggL_law_L_build_c5 (goodIn_app ggL_law_L_build_c6 (goodIn_app ggL_law_L_build_c7 (goodIn_app ggL_law_L_build_c8 ggL_law_L_build_c9))))))))) ggL_law_L_build_wsX30) ggL_law_L_build_wsX20) ggL_law_L_build_wsX00) ggL_law_L_build_wsX10) (goodIn_sub (fun _ h => List.mem_append_left _ (List.mem_append_left _ (List.mem_append_right _ h))) (by decide +kernel))) (goodIn_sub (fun _ h => List.mem_append_left _ (List.mem_append_right _ h)) (by decide +kernel))) (goodIn_sub (fun _ h => List.mem_append_right _ h) (by decide +kernel))
set_option maxRecDepth 20000 in
theorem gL_law_L_build : GoodIn wsL_law (va_wsS RL 111 yL_build wsL_build) := goodIn_app (goodIn_of _ (by decide +kernel)) ggL_law_L_build
set_option maxRecDepth 20000 in
theorem ggL_law_L_cell : GoodIn wsL_law wsL_cell := goodIn_r _ [65, 66] (by decide +kernel) (by decide +kernel)
set_option maxRecDepth 20000 in
theorem gL_law_L_cell : GoodIn wsL_law (va_wsS RL 102 yL_cell wsL_cell) := goodIn_app (goodIn_of _ (by decide +kernel)) ggL_law_L_cell
set_option maxRecDepth 20000 in
theorem ggL_law_L_act_c0 : GoodIn wsL_law (.code yL_act cL_act 13 (some .boolean) :: wsL_act_r1) := goodIn_r _ [73, 74, 75, 26, 76, 4, 77, 78, 79, 80, 81, 82, 83, 84, 85, 86, 67, 68, 46, 69, 70, 87, 88, 89, 2] rfl (by decide +kernel)
set_option maxRecDepth 20000 in
theorem ggL_law_L_act_c1 : GoodIn wsL_law wsL_act_r2 := goodIn_r _ [90, 14, 91, 92, 93, 94, 95, 96, 97, 98, 99, 100, 101, 102, 103, 104, 105, 106, 107, 108, 109, 110, 111, 13] (by decide +kernel) (by decide +kernel)
set_option maxRecDepth 20000 in
theorem ggL_law_L_act_c2 : GoodIn wsL_law wsL_act_r3 := goodIn_r _ [112, 25, 27, 28, 29, 30, 31, 32, 113, 114, 115, 50, 116, 117, 55, 118, 119, 120, 121, 122, 123, 124, 125, 126] (by decide +kernel) (by decide +kernel)
set_option maxRecDepth 20000 in
theorem ggL_law_L_act_c3 : GoodIn wsL_law wsL_act_r4 := goodIn_r _ [127, 128, 129, 130, 131, 132, 133, 134, 135, 136, 137, 138, 139, 140, 141, 142, 143, 144, 57, 145, 146, 147, 148, 149] (by decide +kernel) (by decide +kernel)
set_option maxRecDepth 20000 in
theorem ggL_law_L_act_c4 : GoodIn wsL_law wsL_act_r5 := goodIn_r _ [150, 151, 152, 153, 154, 155, 156, 157, 158, 18, 159, 160, 161, 162, 17, 163, 37, 164, 165, 166, 167, 168, 169, 170] (by decide +kernel) (by decide +kernel)
set_option maxRecDepth 20000 in
theorem ggL_law_L_act_c5 : GoodIn wsL_law wsL_act_r6 := goodIn_r _ [171, 172, 173, 174, 175, 176, 177, 60, 61, 178, 179, 180, 181, 182, 183, 184, 185, 186, 38, 187, 39, 188, 189, 190] (by decide +kernel) (by decide +kernel)
set_option maxRecDepth 20000 in
theorem ggL_law_L_act_c6 : GoodIn wsL_law wsL_act_r7 := goodIn_r _ [191, 192, 40, 193, 194, 195, 196, 59, 197, 198, 199, 200, 201, 202, 203, 204, 20, 205, 206, 207, 208, 209, 210, 211] (by decide +kernel) (by decide +kernel)
set_option maxRecDepth 20000 in
theorem ggL_law_L_act_c7 : GoodIn wsL_law wsL_act_r8 := goodIn_r _ [41, 212, 213, 214, 215, 216, 217, 218, 219, 220, 221, 42, 43, 222, 223, 224, 225, 226, 227, 228, 229, 230, 231, 232] (by decide +kernel) (by decide +kernel)
set_option maxRecDepth 20000 in
theorem ggL_law_L_act_c8 : GoodIn wsL_law wsL_act_r9 := goodIn_r _ [233, 234, 235, 236, 237, 238, 239, 240, 241, 242, 243, 244, 245, 246, 247, 248, 249, 58, 62, 250, 251, 252, 253, 254] (by decide +kernel) (by decide +kernel)
set_option maxRecDepth 20000 in
theorem ggL_law_L_act_c9 : GoodIn wsL_law wsL_act_r10 := goodIn_r _ [255, 256] (by decide +kernel) (by decide +kernel)
set_option maxRecDepth 20000 in
theorem ggL_law_L_act_wsX30 : GoodIn wsL_law wsX30 := goodIn_r _ [417, 418, 419, 420, 421, 422, 423, 424, 425] (by decide +kernel) (by decide +kernel)
set_option maxRecDepth 20000 in
theorem ggL_law_L_act_wsX20 : GoodIn wsL_law wsX20 := goodIn_r _ [399, 400, 401, 402] (by decide +kernel) (by decide +kernel)
set_option maxRecDepth 20000 in
theorem ggL_law_L_act_wsX00 : GoodIn wsL_law wsX00 := goodIn_r _ [403, 404, 405, 406, 407, 408, 409] (by decide +kernel) (by decide +kernel)
set_option maxRecDepth 20000 in
theorem ggL_law_L_act_wsX10 : GoodIn wsL_law wsX10 := goodIn_r _ [410, 411, 412, 413, 414, 415, 416] (by decide +kernel) (by decide +kernel)
set_option maxRecDepth 20000 in
theorem ggL_law_L_act : GoodIn wsL_law wsL_act := goodIn_ca (goodIn_ca (goodIn_ca (goodIn_ca (goodIn_ca (goodIn_ca (goodIn_ca (goodIn_ca ggL_law_L_act_c0 (goodIn_app ggL_law_L_act_c1 (goodIn_app ggL_law_L_act_c2 (goodIn_app ggL_law_L_act_c3 (goodIn_app ggL_law_L_act_c4 (goodIn_app ggL_law_L_act_c5 (goodIn_app ggL_law_L_act_c6 (goodIn_app ggL_law_L_act_c7 (goodIn_app ggL_law_L_act_c8 ggL_law_L_act_c9))))))))) ggL_law_L_act_wsX30) ggL_law_L_act_wsX20) ggL_law_L_act_wsX00) ggL_law_L_act_wsX10) (goodIn_sub (fun _ h => List.mem_append_left _ (List.mem_append_left _ (List.mem_append_right _ h))) (by decide +kernel))) (goodIn_sub (fun _ h => List.mem_append_left _ (List.mem_append_right _ h)) (by decide +kernel))) (goodIn_sub (fun _ h => List.mem_append_right _ h) (by decide +kernel))
set_option maxRecDepth 20000 in
theorem gL_law_L_act : GoodIn wsL_law (va_wsS RL 106 yL_act wsL_act) := goodIn_app (goodIn_of _ (by decide +kernel)) ggL_law_L_act
set_option maxRecDepth 20000 in
theorem ggL_law_X2_fables : GoodIn wsL_law wsX2_fables := goodIn_r _ [260, 14, 108, 399, 400, 401, 402, 403, 404, 405, 406, 407, 408, 409] (by decide +kernel) (by decide +kernel)
set_option maxRecDepth 20000 in
theorem gL_law_X2_fables : GoodIn wsL_law (wsV RL 115 RX2 yX2_fables wsX2_fables) := goodIn_app (goodIn_of _ (by decide +kernel)) ggL_law_X2_fables
set_option maxRecDepth 20000 in
theorem ggL_law_X2_isTold : GoodIn wsL_law wsX2_isTold := goodIn_ca (goodIn_r _ [264, 18, 182, 124, 125, 126, 2, 127, 94, 95, 14, 108, 99, 100, 101, 128, 129, 130, 399, 400, 401, 402, 410, 411, 412, 413, 414, 415, 416, 403, 404, 405, 406, 407, 408, 409] (by decide +kernel) (by decide +kernel)) (goodIn_sub (fun _ h => List.mem_append_left _ (List.mem_append_left _ (List.mem_append_right _ h))) (by decide +kernel))
set_option maxRecDepth 20000 in
theorem gL_law_X2_isTold : GoodIn wsL_law (wsV RL 118 RX2 yX2_isTold wsX2_isTold) := goodIn_app (goodIn_of _ (by decide +kernel)) ggL_law_X2_isTold
set_option maxRecDepth 20000 in
theorem ggL_law_X2_silenced : GoodIn wsL_law wsX2_silenced := goodIn_r _ [268, 18, 269, 399, 400, 401, 402, 410, 411, 412, 413, 414, 415, 416] (by decide +kernel) (by decide +kernel)
set_option maxRecDepth 20000 in
theorem gL_law_X2_silenced : GoodIn wsL_law (wsV RL 121 RX2 yX2_silenced wsX2_silenced) := goodIn_app (goodIn_of _ (by decide +kernel)) ggL_law_X2_silenced
set_option maxRecDepth 20000 in
theorem ggL_law_X2_passSeasons : GoodIn wsL_law wsX2_passSeasons := goodIn_ca (goodIn_r _ [204, 18, 14, 20, 205, 206, 2, 207, 157, 158, 208, 209, 210, 17, 211, 41, 212, 213, 214, 215, 216, 217, 184, 185, 186, 38, 187, 39, 188, 129, 130, 218, 219, 220, 221, 42, 40, 43, 132, 133, 134, 135, 136, 137, 138, 139, 140, 222, 223, 224, 225, 226, 227, 228, 229, 37, 230, 231, 232, 233, 234, 235, 236, 237, 238, 239, 13, 240, 25, 189, 190, 191, 192, 399, 400, 401, 402, 410, 411, 412, 413, 414, 415, 416, 403, 404, 405, 406, 407, 408, 409] (by decide +kernel) (by decide +kernel)) (goodIn_sub (fun _ h => List.mem_append_right _ h) (by decide +kernel))
set_option maxRecDepth 20000 in
theorem gL_law_X2_passSeasons : GoodIn wsL_law (wsV RL 90 RX2 yX2_passSeasons wsX2_passSeasons) := goodIn_app (goodIn_of _ (by decide +kernel)) ggL_law_X2_passSeasons
set_option maxRecDepth 20000 in
theorem ggL_law_X3_pass : GoodIn wsL_law wsX3_pass := goodIn_r _ [248, 117, 59, 249, 58, 4, 62, 60, 55, 250, 251, 175, 176, 50, 177, 57, 61, 417, 418, 419, 420, 421, 422, 423, 424, 425] (by decide +kernel) (by decide +kernel)
set_option maxRecDepth 20000 in
theorem gL_law_X3_pass : GoodIn wsL_law (wsV RL 124 RX3 yX3_pass wsX3_pass) := goodIn_app (goodIn_of _ (by decide +kernel)) ggL_law_X3_pass
set_option maxRecDepth 20000 in
theorem ggL_law_X2_toldIn : GoodIn wsL_law wsX2_toldIn := goodIn_ca (goodIn_r _ [274, 18, 182, 99, 100, 2, 101, 94, 95, 131, 132, 133, 134, 135, 136, 137, 138, 139, 140, 399, 400, 401, 402, 410, 411, 412, 413, 414, 415, 416] (by decide +kernel) (by decide +kernel)) (goodIn_sub (fun _ h => List.mem_append_left _ (List.mem_append_left _ (List.mem_append_right _ h))) (by decide +kernel))
set_option maxRecDepth 20000 in
theorem gL_law_X2_toldIn : GoodIn wsL_law (wsV RL 127 RX2 yX2_toldIn wsX2_toldIn) := goodIn_app (goodIn_of _ (by decide +kernel)) ggL_law_X2_toldIn
set_option maxRecDepth 20000 in
theorem ggL_law_X2_allowedIn : GoodIn wsL_law wsX2_allowedIn := goodIn_ca (goodIn_r _ [278, 18, 14, 99, 100, 2, 101, 94, 95, 279, 213, 214, 17, 215, 216, 217, 184, 185, 186, 38, 187, 39, 188, 129, 130, 131, 132, 133, 134, 135, 136, 137, 138, 139, 140, 399, 400, 401, 402, 403, 404, 405, 406, 407, 408, 409, 410, 411, 412, 413, 414, 415, 416] (by decide +kernel) (by decide +kernel)) (goodIn_sub (fun _ h => List.mem_append_left _ (List.mem_append_left _ (List.mem_append_right _ h))) (by decide +kernel))
set_option maxRecDepth 20000 in
theorem gL_law_X2_allowedIn : GoodIn wsL_law (wsV RL 130 RX2 yX2_allowedIn wsX2_allowedIn) := goodIn_app (goodIn_of _ (by decide +kernel)) ggL_law_X2_allowedIn
set_option maxRecDepth 20000 in
theorem ggL_law_X2_isOpen : GoodIn wsL_law wsX2_isOpen := goodIn_ca (goodIn_r _ [283, 18, 159, 99, 100, 2, 101, 94, 95, 128, 129, 130, 399, 400, 401, 402, 410, 411, 412, 413, 414, 415, 416] (by decide +kernel) (by decide +kernel)) (goodIn_sub (fun _ h => List.mem_append_left _ (List.mem_append_left _ (List.mem_append_right _ h))) (by decide +kernel))
set_option maxRecDepth 20000 in
theorem gL_law_X2_isOpen : GoodIn wsL_law (wsV RL 133 RX2 yX2_isOpen wsX2_isOpen) := goodIn_app (goodIn_of _ (by decide +kernel)) ggL_law_X2_isOpen
set_option maxRecDepth 20000 in
theorem ggL_law_X2_parentOf : GoodIn wsL_law wsX2_parentOf := goodIn_ca (goodIn_r _ [287, 14, 288, 124, 125, 126, 2, 127, 94, 95, 108, 399, 400, 401, 402, 403, 404, 405, 406, 407, 408, 409] (by decide +kernel) (by decide +kernel)) (goodIn_sub (fun _ h => List.mem_append_left _ (List.mem_append_left _ (List.mem_append_right _ h))) (by decide +kernel))
set_option maxRecDepth 20000 in
theorem gL_law_X2_parentOf : GoodIn wsL_law (wsV RL 136 RX2 yX2_parentOf wsX2_parentOf) := goodIn_app (goodIn_of _ (by decide +kernel)) ggL_law_X2_parentOf
set_option maxRecDepth 20000 in
theorem ggL_law_X2_beastsOf : GoodIn wsL_law wsX2_beastsOf := goodIn_ca (goodIn_r _ [292, 14, 122, 124, 125, 126, 2, 127, 94, 95, 108, 131, 132, 133, 134, 135, 136, 137, 138, 139, 140, 399, 400, 401, 402, 403, 404, 405, 406, 407, 408, 409] (by decide +kernel) (by decide +kernel)) (goodIn_sub (fun _ h => List.mem_append_left _ (List.mem_append_left _ (List.mem_append_right _ h))) (by decide +kernel))
set_option maxRecDepth 20000 in
theorem gL_law_X2_beastsOf : GoodIn wsL_law (wsV RL 139 RX2 yX2_beastsOf wsX2_beastsOf) := goodIn_app (goodIn_of _ (by decide +kernel)) ggL_law_X2_beastsOf
set_option maxRecDepth 20000 in
theorem ggL_law_X2_sharedBeasts : GoodIn wsL_law wsX2_sharedBeasts := goodIn_ca (goodIn_r _ [296, 14, 122, 124, 125, 126, 2, 127, 94, 95, 108, 131, 132, 133, 134, 135, 136, 137, 138, 139, 140, 399, 400, 401, 402, 403, 404, 405, 406, 407, 408, 409] (by decide +kernel) (by decide +kernel)) (goodIn_sub (fun _ h => List.mem_append_left _ (List.mem_append_left _ (List.mem_append_right _ h))) (by decide +kernel))
set_option maxRecDepth 20000 in
theorem gL_law_X2_sharedBeasts : GoodIn wsL_law (wsV RL 140 RX2 yX2_sharedBeasts wsX2_sharedBeasts) := goodIn_app (goodIn_of _ (by decide +kernel)) ggL_law_X2_sharedBeasts
set_option maxRecDepth 20000 in
theorem ggL_law_X2_moralOf : GoodIn wsL_law wsX2_moralOf := goodIn_ca (goodIn_r _ [300, 14, 149, 124, 125, 126, 2, 127, 94, 95, 108, 399, 400, 401, 402, 403, 404, 405, 406, 407, 408, 409] (by decide +kernel) (by decide +kernel)) (goodIn_sub (fun _ h => List.mem_append_left _ (List.mem_append_left _ (List.mem_append_right _ h))) (by decide +kernel))
set_option maxRecDepth 20000 in
theorem gL_law_X2_moralOf : GoodIn wsL_law (wsV RL 143 RX2 yX2_moralOf wsX2_moralOf) := goodIn_app (goodIn_of _ (by decide +kernel)) ggL_law_X2_moralOf
set_option maxRecDepth 20000 in
theorem ggL_law_X2_kinship : GoodIn wsL_law wsX2_kinship := goodIn_ca (goodIn_r _ [304, 14, 305, 124, 125, 126, 2, 127, 94, 95, 108, 131, 132, 133, 134, 135, 136, 137, 138, 139, 140, 399, 400, 401, 402, 403, 404, 405, 406, 407, 408, 409] (by decide +kernel) (by decide +kernel)) (goodIn_sub (fun _ h => List.mem_append_left _ (List.mem_append_left _ (List.mem_append_right _ h))) (by decide +kernel))
set_option maxRecDepth 20000 in
theorem gL_law_X2_kinship : GoodIn wsL_law (wsV RL 146 RX2 yX2_kinship wsX2_kinship) := goodIn_app (goodIn_of _ (by decide +kernel)) ggL_law_X2_kinship
set_option maxRecDepth 20000 in
theorem ggL_law_X2_variantsOf : GoodIn wsL_law wsX2_variantsOf := goodIn_ca (goodIn_r _ [309, 14, 123, 124, 125, 126, 2, 127, 94, 95, 108, 131, 132, 133, 134, 135, 136, 137, 138, 139, 140, 399, 400, 401, 402, 403, 404, 405, 406, 407, 408, 409] (by decide +kernel) (by decide +kernel)) (goodIn_sub (fun _ h => List.mem_append_left _ (List.mem_append_left _ (List.mem_append_right _ h))) (by decide +kernel))
set_option maxRecDepth 20000 in
theorem gL_law_X2_variantsOf : GoodIn wsL_law (wsV RL 149 RX2 yX2_variantsOf wsX2_variantsOf) := goodIn_app (goodIn_of _ (by decide +kernel)) ggL_law_X2_variantsOf
set_option maxRecDepth 20000 in
theorem ggL_law_X2_valleysOf : GoodIn wsL_law wsX2_valleysOf := goodIn_ca (goodIn_r _ [313, 18, 124, 125, 126, 2, 127, 94, 95, 14, 108, 189, 190, 191, 17, 192, 40, 132, 133, 134, 135, 136, 137, 138, 139, 140, 399, 400, 401, 402, 403, 404, 405, 406, 407, 408, 409, 410, 411, 412, 413, 414, 415, 416] (by decide +kernel) (by decide +kernel)) (goodIn_sub (fun _ h => List.mem_append_left _ (List.mem_append_left _ (List.mem_append_right _ h))) (by decide +kernel))
set_option maxRecDepth 20000 in
theorem gL_law_X2_valleysOf : GoodIn wsL_law (wsV RL 152 RX2 yX2_valleysOf wsX2_valleysOf) := goodIn_app (goodIn_of _ (by decide +kernel)) ggL_law_X2_valleysOf
set_option maxRecDepth 20000 in
theorem ggL_law_X2_isBanned : GoodIn wsL_law wsX2_isBanned := goodIn_ca (goodIn_r _ [317, 18, 14, 124, 125, 126, 2, 127, 94, 95, 108, 99, 100, 101, 183, 184, 185, 17, 186, 38, 187, 39, 188, 129, 130, 399, 400, 401, 402, 403, 404, 405, 406, 407, 408, 409, 410, 411, 412, 413, 414, 415, 416] (by decide +kernel) (by decide +kernel)) (goodIn_sub (fun _ h => List.mem_append_left _ (List.mem_append_left _ (List.mem_append_right _ h))) (by decide +kernel))
set_option maxRecDepth 20000 in
theorem gL_law_X2_isBanned : GoodIn wsL_law (wsV RL 155 RX2 yX2_isBanned wsX2_isBanned) := goodIn_app (goodIn_of _ (by decide +kernel)) ggL_law_X2_isBanned
set_option maxRecDepth 20000 in
theorem ggL_law_X2_tellings : GoodIn wsL_law wsX2_tellings := goodIn_r _ [321, 18, 14, 237, 238, 239, 13, 240, 25, 189, 190, 191, 17, 192, 40, 132, 2, 133, 134, 135, 136, 137, 138, 139, 140, 399, 400, 401, 402, 403, 404, 405, 406, 407, 408, 409, 410, 411, 412, 413, 414, 415, 416] (by decide +kernel) (by decide +kernel)
set_option maxRecDepth 20000 in
theorem gL_law_X2_tellings : GoodIn wsL_law (wsV RL 156 RX2 yX2_tellings wsX2_tellings) := goodIn_app (goodIn_of _ (by decide +kernel)) ggL_law_X2_tellings
set_option maxRecDepth 20000 in
theorem ggL_law_X2_meanBeasts : GoodIn wsL_law wsX2_meanBeasts := goodIn_r _ [325, 14, 108, 122, 131, 132, 2, 133, 134, 135, 136, 137, 138, 139, 140, 399, 400, 401, 402, 403, 404, 405, 406, 407, 408, 409] (by decide +kernel) (by decide +kernel)
set_option maxRecDepth 20000 in
theorem gL_law_X2_meanBeasts : GoodIn wsL_law (wsV RL 157 RX2 yX2_meanBeasts wsX2_meanBeasts) := goodIn_app (goodIn_of _ (by decide +kernel)) ggL_law_X2_meanBeasts
set_option maxRecDepth 20000 in
theorem ggL_law_X2_fablesWithBeast : GoodIn wsL_law wsX2_fablesWithBeast := goodIn_ca (goodIn_r _ [329, 14, 96, 97, 2, 98, 94, 95, 330, 331, 332, 13, 333, 25, 28, 129, 130, 131, 132, 133, 134, 135, 136, 137, 138, 139, 140, 399, 400, 401, 402, 403, 404, 405, 406, 407, 408, 409] (by decide +kernel) (by decide +kernel)) (goodIn_sub (fun _ h => List.mem_append_left _ (List.mem_append_left _ (List.mem_append_right _ h))) (by decide +kernel))
set_option maxRecDepth 20000 in
theorem gL_law_X2_fablesWithBeast : GoodIn wsL_law (wsV RL 161 RX2 yX2_fablesWithBeast wsX2_fablesWithBeast) := goodIn_app (goodIn_of _ (by decide +kernel)) ggL_law_X2_fablesWithBeast
set_option maxRecDepth 20000 in
theorem ggL_law_X2_fablesWithMoral : GoodIn wsL_law wsX2_fablesWithMoral := goodIn_ca (goodIn_r _ [337, 14, 91, 92, 2, 93, 94, 95, 338, 339, 340, 13, 341, 25, 27, 131, 132, 133, 134, 135, 136, 137, 138, 139, 140, 399, 400, 401, 402, 403, 404, 405, 406, 407, 408, 409] (by decide +kernel) (by decide +kernel)) (goodIn_sub (fun _ h => List.mem_append_left _ (List.mem_append_left _ (List.mem_append_right _ h))) (by decide +kernel))
set_option maxRecDepth 20000 in
theorem gL_law_X2_fablesWithMoral : GoodIn wsL_law (wsV RL 164 RX2 yX2_fablesWithMoral wsX2_fablesWithMoral) := goodIn_app (goodIn_of _ (by decide +kernel)) ggL_law_X2_fablesWithMoral
set_option maxRecDepth 20000 in
theorem ggL_law_X2_favouriteMoral : GoodIn wsL_law wsX2_favouriteMoral := goodIn_r _ [345, 18, 14, 338, 339, 340, 13, 341, 25, 27, 189, 190, 191, 17, 192, 40, 132, 2, 133, 134, 135, 136, 137, 138, 139, 140, 399, 400, 401, 402, 403, 404, 405, 406, 407, 408, 409, 410, 411, 412, 413, 414, 415, 416] (by decide +kernel) (by decide +kernel)
set_option maxRecDepth 20000 in
theorem gL_law_X2_favouriteMoral : GoodIn wsL_law (wsV RL 167 RX2 yX2_favouriteMoral wsX2_favouriteMoral) := goodIn_app (goodIn_of _ (by decide +kernel)) ggL_law_X2_favouriteMoral
set_option maxRecDepth 20000 in
theorem ggL_law_X2_favouriteBeast : GoodIn wsL_law wsX2_favouriteBeast := goodIn_r _ [349, 18, 14, 330, 331, 332, 13, 333, 25, 28, 129, 2, 130, 189, 190, 191, 17, 192, 40, 132, 133, 134, 135, 136, 137, 138, 139, 140, 399, 400, 401, 402, 403, 404, 405, 406, 407, 408, 409, 410, 411, 412, 413, 414, 415, 416] (by decide +kernel) (by decide +kernel)
set_option maxRecDepth 20000 in
theorem gL_law_X2_favouriteBeast : GoodIn wsL_law (wsV RL 170 RX2 yX2_favouriteBeast wsX2_favouriteBeast) := goodIn_app (goodIn_of _ (by decide +kernel)) ggL_law_X2_favouriteBeast
set_option maxRecDepth 20000 in
theorem ggL_law_L_below : GoodIn wsL_law wsL_below := goodIn_r _ [69, 70] (by decide +kernel) (by decide +kernel)
set_option maxRecDepth 20000 in
theorem gL_law_L_below : GoodIn wsL_law (va_wsS RL 15 yL_below wsL_below) := goodIn_app (goodIn_of _ (by decide +kernel)) ggL_law_L_below
set_option maxRecDepth 20000 in
theorem ggL_law_X2_forget : GoodIn wsL_law wsX2_forget := goodIn_ca (goodIn_ca (goodIn_r _ [200, 106, 107, 18, 182, 124, 125, 126, 2, 127, 94, 95, 14, 108, 99, 100, 101, 128, 129, 130, 150, 151, 152, 189, 190, 191, 17, 192, 40, 132, 133, 134, 135, 136, 137, 138, 139, 140, 399, 400, 401, 402, 410, 411, 412, 413, 414, 415, 416, 403, 404, 405, 406, 407, 408, 409] (by decide +kernel) (by decide +kernel)) (goodIn_sub (fun _ h => List.mem_append_left _ (List.mem_append_right _ h)) (by decide +kernel))) (goodIn_sub (fun _ h => List.mem_append_left _ (List.mem_append_left _ (List.mem_append_right _ h))) (by decide +kernel))
set_option maxRecDepth 20000 in
theorem gL_law_X2_forget : GoodIn wsL_law (wsV RL 87 RX2 yX2_forget wsX2_forget) := goodIn_app (goodIn_of _ (by decide +kernel)) ggL_law_X2_forget
set_option maxRecDepth 20000 in
theorem ggL_law_X2_tell : GoodIn wsL_law wsX2_tell := goodIn_ca (goodIn_ca (goodIn_r _ [181, 106, 107, 18, 182, 14, 124, 125, 126, 2, 127, 94, 95, 108, 99, 100, 101, 128, 129, 130, 183, 184, 185, 17, 186, 38, 187, 39, 188, 189, 190, 191, 192, 40, 132, 133, 134, 135, 136, 137, 138, 139, 140, 399, 400, 401, 402, 410, 411, 412, 413, 414, 415, 416, 403, 404, 405, 406, 407, 408, 409] (by decide +kernel) (by decide +kernel)) (goodIn_sub (fun _ h => List.mem_append_left _ (List.mem_append_right _ h)) (by decide +kernel))) (goodIn_sub (fun _ h => List.mem_append_left _ (List.mem_append_left _ (List.mem_append_right _ h))) (by decide +kernel))
set_option maxRecDepth 20000 in
theorem gL_law_X2_tell : GoodIn wsL_law (wsV RL 81 RX2 yX2_tell wsX2_tell) := goodIn_app (goodIn_of _ (by decide +kernel)) ggL_law_X2_tell
set_option maxRecDepth 20000 in
theorem ggL_law_X3_isSame_c0 : GoodIn wsL_law (.code yX3_isSame cX3_isSame 12 (some .boolean) :: wsX3_isSame_r1) := goodIn_r _ [353, 117, 250, 249, 26, 55, 57, 59, 60, 61, 62, 354, 258, 259, 2, 260, 14, 108, 355, 356, 357, 358, 20, 359, 319] rfl (by decide +kernel)
set_option maxRecDepth 20000 in
theorem ggL_law_X3_isSame_c1 : GoodIn wsL_law wsX3_isSame_r2 := goodIn_r _ [320, 321, 18, 237, 238, 239, 13, 240, 25, 189, 190, 191, 17, 192, 40, 132, 133, 134, 135, 136, 137, 138, 139, 140] (by decide +kernel) (by decide +kernel)
set_option maxRecDepth 20000 in
theorem ggL_law_X3_isSame_c2 : GoodIn wsL_law wsX3_isSame_r3 := goodIn_r _ [360, 253, 254, 50, 255, 256, 194, 195, 196, 361, 266, 267, 268, 269, 362, 343, 344, 345, 338, 339, 340, 341, 27, 363] (by decide +kernel) (by decide +kernel)
set_option maxRecDepth 20000 in
theorem ggL_law_X3_isSame_c3 : GoodIn wsL_law wsX3_isSame_r4 := goodIn_r _ [364, 365, 366, 367, 368, 369, 370, 371, 347, 348, 349, 330, 331, 332, 333, 28, 129, 130, 372, 298, 299, 300, 149, 124] (by decide +kernel) (by decide +kernel)
set_option maxRecDepth 20000 in
theorem ggL_law_X3_isSame_c4 : GoodIn wsL_law wsX3_isSame_r5 := goodIn_r _ [125, 126, 127, 94, 95, 373, 374, 375, 376, 377, 378, 285, 286, 287, 288, 379, 290, 291, 292, 122, 131, 380, 142, 143] (by decide +kernel) (by decide +kernel)
set_option maxRecDepth 20000 in
theorem ggL_law_X3_isSame_c5 : GoodIn wsL_law wsX3_isSame_r6 := goodIn_r _ [144, 381, 311, 312, 313, 382, 307, 308, 309, 123, 383, 384, 385, 386, 96, 97, 98, 128, 387, 262, 263, 264, 182, 99] (by decide +kernel) (by decide +kernel)
set_option maxRecDepth 20000 in
theorem ggL_law_X3_isSame_c6 : GoodIn wsL_law wsX3_isSame_r7 := goodIn_r _ [100, 101, 388, 315, 316, 317, 183, 184, 185, 186, 38, 187, 39, 188, 251, 175, 176, 177, 389, 335, 336, 337, 91, 92] (by decide +kernel) (by decide +kernel)
set_option maxRecDepth 20000 in
theorem ggL_law_X3_isSame_c7 : GoodIn wsL_law wsX3_isSame_r8 := goodIn_r _ [93, 390, 327, 328, 329, 391, 272, 273, 274, 392, 276, 277, 278, 279, 213, 214, 215, 216, 217, 393, 394, 395, 396, 168] (by decide +kernel) (by decide +kernel)
set_option maxRecDepth 20000 in
theorem ggL_law_X3_isSame_c8 : GoodIn wsL_law wsX3_isSame_r9 := goodIn_r _ [173, 397, 281, 282, 283, 159, 398, 323, 324, 325] (by decide +kernel) (by decide +kernel)
set_option maxRecDepth 20000 in
theorem ggL_law_X3_isSame_wsX30 : GoodIn wsL_law wsX30 := goodIn_r _ [417, 418, 419, 420, 421, 422, 423, 424, 425] (by decide +kernel) (by decide +kernel)
set_option maxRecDepth 20000 in
theorem ggL_law_X3_isSame_wsX20 : GoodIn wsL_law wsX20 := goodIn_r _ [399, 400, 401, 402] (by decide +kernel) (by decide +kernel)
set_option maxRecDepth 20000 in
theorem ggL_law_X3_isSame_wsX00 : GoodIn wsL_law wsX00 := goodIn_r _ [403, 404, 405, 406, 407, 408, 409] (by decide +kernel) (by decide +kernel)
set_option maxRecDepth 20000 in
theorem ggL_law_X3_isSame_wsX10 : GoodIn wsL_law wsX10 := goodIn_r _ [410, 411, 412, 413, 414, 415, 416] (by decide +kernel) (by decide +kernel)
set_option maxRecDepth 20000 in
theorem ggL_law_X3_isSame : GoodIn wsL_law wsX3_isSame := goodIn_ca (goodIn_ca (goodIn_ca (goodIn_ca (goodIn_ca (goodIn_ca ggL_law_X3_isSame_c0 (goodIn_app ggL_law_X3_isSame_c1 (goodIn_app ggL_law_X3_isSame_c2 (goodIn_app ggL_law_X3_isSame_c3 (goodIn_app ggL_law_X3_isSame_c4 (goodIn_app ggL_law_X3_isSame_c5 (goodIn_app ggL_law_X3_isSame_c6 (goodIn_app ggL_law_X3_isSame_c7 ggL_law_X3_isSame_c8)))))))) ggL_law_X3_isSame_wsX30) ggL_law_X3_isSame_wsX20) ggL_law_X3_isSame_wsX00) ggL_law_X3_isSame_wsX10) (goodIn_sub (fun _ h => List.mem_append_left _ (List.mem_append_left _ (List.mem_append_right _ h))) (by decide +kernel))
set_option maxRecDepth 20000 in
theorem gL_law_X3_isSame : GoodIn wsL_law (wsV RL 173 RX3 yX3_isSame wsX3_isSame) := goodIn_app (goodIn_of _ (by decide +kernel)) ggL_law_X3_isSame
theorem dL_law_0 : decode cL_law 0 = .ok (.new 30, 3) := by decide +kernel
theorem dL_law_3 : decode cL_law 3 = .ok (.dup, 1) := by decide +kernel
theorem dL_law_4 : decode cL_law 4 = .ok (.invokespecial 110, 3) := by decide +kernel
theorem dL_law_7 : decode cL_law 7 = .ok (.astore_n 1, 1) := by decide +kernel
theorem dL_law_8 : decode cL_law 8 = .ok (.aload_n 1, 1) := by decide +kernel
theorem dL_law_9 : decode cL_law 9 = .ok (.aload_n 0, 1) := by decide +kernel
theorem dL_law_10 : decode cL_law 10 = .ok (.invokestatic 111, 3) := by decide +kernel
theorem dL_law_13 : decode cL_law 13 = .ok (.astore_n 2, 1) := by decide +kernel
theorem dL_law_14 : decode cL_law 14 = .ok (.aload_n 2, 1) := by decide +kernel
theorem dL_law_15 : decode cL_law 15 = .ok (.ifnonnull 5, 3) := by decide +kernel
theorem dL_law_18 : decode cL_law 18 = .ok (.iconst 0, 1) := by decide +kernel
theorem dL_law_19 : decode cL_law 19 = .ok (.ireturn, 1) := by decide +kernel
theorem dL_law_20 : decode cL_law 20 = .ok (.iconst 0, 1) := by decide +kernel
theorem dL_law_21 : decode cL_law 21 = .ok (.istore_n 3, 1) := by decide +kernel
theorem dL_law_22 : decode cL_law 22 = .ok (.iload_n 3, 1) := by decide +kernel
theorem dL_law_23 : decode cL_law 23 = .ok (.bipush 24, 2) := by decide +kernel
theorem dL_law_25 : decode cL_law 25 = .ok (.if_icmp .ge 922, 3) := by decide +kernel
theorem dL_law_28 : decode cL_law 28 = .ok (.aload_n 0, 1) := by decide +kernel
theorem dL_law_29 : decode cL_law 29 = .ok (.iload_n 3, 1) := by decide +kernel
theorem dL_law_30 : decode cL_law 30 = .ok (.bipush 16, 2) := by decide +kernel
theorem dL_law_32 : decode cL_law 32 = .ok (.irem, 1) := by decide +kernel
theorem dL_law_33 : decode cL_law 33 = .ok (.invokestatic 102, 3) := by decide +kernel
theorem dL_law_36 : decode cL_law 36 = .ok (.iload_n 3, 1) := by decide +kernel
theorem dL_law_37 : decode cL_law 37 = .ok (.bipush 16, 2) := by decide +kernel
theorem dL_law_39 : decode cL_law 39 = .ok (.idiv, 1) := by decide +kernel
theorem dL_law_40 : decode cL_law 40 = .ok (.iconst 3, 1) := by decide +kernel
theorem dL_law_41 : decode cL_law 41 = .ok (.imul, 1) := by decide +kernel
theorem dL_law_42 : decode cL_law 42 = .ok (.ishr, 1) := by decide +kernel
theorem dL_law_43 : decode cL_law 43 = .ok (.sipush 499, 3) := by decide +kernel
theorem dL_law_46 : decode cL_law 46 = .ok (.iload_n 3, 1) := by decide +kernel
theorem dL_law_47 : decode cL_law 47 = .ok (.imul, 1) := by decide +kernel
theorem dL_law_48 : decode cL_law 48 = .ok (.iadd, 1) := by decide +kernel
theorem dL_law_49 : decode cL_law 49 = .ok (.istore 4, 2) := by decide +kernel
theorem dL_law_51 : decode cL_law 51 = .ok (.aload_n 1, 1) := by decide +kernel
theorem dL_law_52 : decode cL_law 52 = .ok (.aload_n 2, 1) := by decide +kernel
theorem dL_law_53 : decode cL_law 53 = .ok (.iload 4, 2) := by decide +kernel
theorem dL_law_55 : decode cL_law 55 = .ok (.invokestatic 106, 3) := by decide +kernel
theorem dL_law_58 : decode cL_law 58 = .ok (.ifCond .ne 5, 3) := by decide +kernel
theorem dL_law_61 : decode cL_law 61 = .ok (.iconst 0, 1) := by decide +kernel
theorem dL_law_62 : decode cL_law 62 = .ok (.ireturn, 1) := by decide +kernel
theorem dL_law_63 : decode cL_law 63 = .ok (.aload_n 1, 1) := by decide +kernel
theorem dL_law_64 : decode cL_law 64 = .ok (.invokevirtual 115, 3) := by decide +kernel
theorem dL_law_67 : decode cL_law 67 = .ok (.istore 5, 2) := by decide +kernel
theorem dL_law_69 : decode cL_law 69 = .ok (.iload 5, 2) := by decide +kernel
theorem dL_law_71 : decode cL_law 71 = .ok (.bipush 6, 2) := by decide +kernel
theorem dL_law_73 : decode cL_law 73 = .ok (.multianewarray 117 2, 4) := by decide +kernel
theorem dL_law_77 : decode cL_law 77 = .ok (.astore 6, 2) := by decide +kernel
theorem dL_law_79 : decode cL_law 79 = .ok (.iconst 0, 1) := by decide +kernel
theorem dL_law_80 : decode cL_law 80 = .ok (.istore 7, 2) := by decide +kernel
theorem dL_law_82 : decode cL_law 82 = .ok (.iload 7, 2) := by decide +kernel
theorem dL_law_84 : decode cL_law 84 = .ok (.iload 5, 2) := by decide +kernel
theorem dL_law_86 : decode cL_law 86 = .ok (.if_icmp .ge 41, 3) := by decide +kernel
theorem dL_law_89 : decode cL_law 89 = .ok (.iconst 0, 1) := by decide +kernel
theorem dL_law_90 : decode cL_law 90 = .ok (.istore 8, 2) := by decide +kernel
theorem dL_law_92 : decode cL_law 92 = .ok (.iload 8, 2) := by decide +kernel
theorem dL_law_94 : decode cL_law 94 = .ok (.bipush 6, 2) := by decide +kernel
theorem dL_law_96 : decode cL_law 96 = .ok (.if_icmp .ge 25, 3) := by decide +kernel
theorem dL_law_99 : decode cL_law 99 = .ok (.aload 6, 2) := by decide +kernel
theorem dL_law_101 : decode cL_law 101 = .ok (.iload 7, 2) := by decide +kernel
theorem dL_law_103 : decode cL_law 103 = .ok (.aaload, 1) := by decide +kernel
theorem dL_law_104 : decode cL_law 104 = .ok (.iload 8, 2) := by decide +kernel
theorem dL_law_106 : decode cL_law 106 = .ok (.aload_n 1, 1) := by decide +kernel
theorem dL_law_107 : decode cL_law 107 = .ok (.iload 7, 2) := by decide +kernel
theorem dL_law_109 : decode cL_law 109 = .ok (.iload 8, 2) := by decide +kernel
theorem dL_law_111 : decode cL_law 111 = .ok (.invokevirtual 118, 3) := by decide +kernel
theorem dL_law_114 : decode cL_law 114 = .ok (.bastore, 1) := by decide +kernel
theorem dL_law_115 : decode cL_law 115 = .ok (.iinc 8 1, 3) := by decide +kernel
theorem dL_law_118 : decode cL_law 118 = .ok (.goto (-26), 3) := by decide +kernel
theorem dL_law_121 : decode cL_law 121 = .ok (.iinc 7 1, 3) := by decide +kernel
theorem dL_law_124 : decode cL_law 124 = .ok (.goto (-42), 3) := by decide +kernel
theorem dL_law_127 : decode cL_law 127 = .ok (.aload_n 1, 1) := by decide +kernel
theorem dL_law_128 : decode cL_law 128 = .ok (.invokevirtual 121, 3) := by decide +kernel
theorem dL_law_131 : decode cL_law 131 = .ok (.istore 7, 2) := by decide +kernel
theorem dL_law_133 : decode cL_law 133 = .ok (.aload_n 1, 1) := by decide +kernel
theorem dL_law_134 : decode cL_law 134 = .ok (.iconst 1, 1) := by decide +kernel
theorem dL_law_135 : decode cL_law 135 = .ok (.invokevirtual 90, 3) := by decide +kernel
theorem dL_law_138 : decode cL_law 138 = .ok (.istore 8, 2) := by decide +kernel
theorem dL_law_140 : decode cL_law 140 = .ok (.aload_n 2, 1) := by decide +kernel
theorem dL_law_141 : decode cL_law 141 = .ok (.invokevirtual 124, 3) := by decide +kernel
theorem dL_law_144 : decode cL_law 144 = .ok (.iconst 0, 1) := by decide +kernel
theorem dL_law_145 : decode cL_law 145 = .ok (.istore 9, 2) := by decide +kernel
theorem dL_law_147 : decode cL_law 147 = .ok (.iconst 0, 1) := by decide +kernel
theorem dL_law_148 : decode cL_law 148 = .ok (.istore 10, 2) := by decide +kernel
theorem dL_law_150 : decode cL_law 150 = .ok (.iconst 0, 1) := by decide +kernel
theorem dL_law_151 : decode cL_law 151 = .ok (.istore 11, 2) := by decide +kernel
theorem dL_law_153 : decode cL_law 153 = .ok (.iconst 0, 1) := by decide +kernel
theorem dL_law_154 : decode cL_law 154 = .ok (.istore 12, 2) := by decide +kernel
theorem dL_law_156 : decode cL_law 156 = .ok (.iconst 0, 1) := by decide +kernel
theorem dL_law_157 : decode cL_law 157 = .ok (.istore 13, 2) := by decide +kernel
theorem dL_law_159 : decode cL_law 159 = .ok (.iload 13, 2) := by decide +kernel
theorem dL_law_161 : decode cL_law 161 = .ok (.bipush 6, 2) := by decide +kernel
theorem dL_law_163 : decode cL_law 163 = .ok (.if_icmp .ge 96, 3) := by decide +kernel
theorem dL_law_166 : decode cL_law 166 = .ok (.iload 10, 2) := by decide +kernel
theorem dL_law_168 : decode cL_law 168 = .ok (.aload_n 1, 1) := by decide +kernel
theorem dL_law_169 : decode cL_law 169 = .ok (.iload 13, 2) := by decide +kernel
theorem dL_law_171 : decode cL_law 171 = .ok (.invokevirtual 127, 3) := by decide +kernel
theorem dL_law_174 : decode cL_law 174 = .ok (.iadd, 1) := by decide +kernel
theorem dL_law_175 : decode cL_law 175 = .ok (.istore 10, 2) := by decide +kernel
theorem dL_law_177 : decode cL_law 177 = .ok (.aload_n 1, 1) := by decide +kernel
theorem dL_law_178 : decode cL_law 178 = .ok (.iload 13, 2) := by decide +kernel
theorem dL_law_180 : decode cL_law 180 = .ok (.invokevirtual 127, 3) := by decide +kernel
theorem dL_law_183 : decode cL_law 183 = .ok (.aload_n 1, 1) := by decide +kernel
theorem dL_law_184 : decode cL_law 184 = .ok (.iload 13, 2) := by decide +kernel
theorem dL_law_186 : decode cL_law 186 = .ok (.invokevirtual 130, 3) := by decide +kernel
theorem dL_law_189 : decode cL_law 189 = .ok (.if_icmp .gt 25, 3) := by decide +kernel
theorem dL_law_192 : decode cL_law 192 = .ok (.aload_n 1, 1) := by decide +kernel
theorem dL_law_193 : decode cL_law 193 = .ok (.iload 13, 2) := by decide +kernel
theorem dL_law_195 : decode cL_law 195 = .ok (.invokevirtual 130, 3) := by decide +kernel
theorem dL_law_198 : decode cL_law 198 = .ok (.iload 5, 2) := by decide +kernel
theorem dL_law_200 : decode cL_law 200 = .ok (.if_icmp .gt 14, 3) := by decide +kernel
theorem dL_law_203 : decode cL_law 203 = .ok (.aload_n 1, 1) := by decide +kernel
theorem dL_law_204 : decode cL_law 204 = .ok (.iload 13, 2) := by decide +kernel
theorem dL_law_206 : decode cL_law 206 = .ok (.iload 13, 2) := by decide +kernel
theorem dL_law_208 : decode cL_law 208 = .ok (.invokevirtual 133, 3) := by decide +kernel
theorem dL_law_211 : decode cL_law 211 = .ok (.ifCond .eq 5, 3) := by decide +kernel
theorem dL_law_214 : decode cL_law 214 = .ok (.iconst 0, 1) := by decide +kernel
theorem dL_law_215 : decode cL_law 215 = .ok (.ireturn, 1) := by decide +kernel
theorem dL_law_216 : decode cL_law 216 = .ok (.iconst 0, 1) := by decide +kernel
theorem dL_law_217 : decode cL_law 217 = .ok (.istore 14, 2) := by decide +kernel
theorem dL_law_219 : decode cL_law 219 = .ok (.iload 14, 2) := by decide +kernel
theorem dL_law_221 : decode cL_law 221 = .ok (.bipush 6, 2) := by decide +kernel
theorem dL_law_223 : decode cL_law 223 = .ok (.if_icmp .ge 30, 3) := by decide +kernel
theorem dL_law_226 : decode cL_law 226 = .ok (.aload_n 1, 1) := by decide +kernel
theorem dL_law_227 : decode cL_law 227 = .ok (.iload 13, 2) := by decide +kernel
theorem dL_law_229 : decode cL_law 229 = .ok (.iload 14, 2) := by decide +kernel
theorem dL_law_231 : decode cL_law 231 = .ok (.invokevirtual 133, 3) := by decide +kernel
theorem dL_law_234 : decode cL_law 234 = .ok (.aload_n 1, 1) := by decide +kernel
theorem dL_law_235 : decode cL_law 235 = .ok (.iload 14, 2) := by decide +kernel
theorem dL_law_237 : decode cL_law 237 = .ok (.iload 13, 2) := by decide +kernel
theorem dL_law_239 : decode cL_law 239 = .ok (.invokevirtual 133, 3) := by decide +kernel
theorem dL_law_242 : decode cL_law 242 = .ok (.if_icmp .eq 5, 3) := by decide +kernel
theorem dL_law_245 : decode cL_law 245 = .ok (.iconst 0, 1) := by decide +kernel
theorem dL_law_246 : decode cL_law 246 = .ok (.ireturn, 1) := by decide +kernel
theorem dL_law_247 : decode cL_law 247 = .ok (.iinc 14 1, 3) := by decide +kernel
theorem dL_law_250 : decode cL_law 250 = .ok (.goto (-31), 3) := by decide +kernel
theorem dL_law_253 : decode cL_law 253 = .ok (.iinc 13 1, 3) := by decide +kernel
theorem dL_law_256 : decode cL_law 256 = .ok (.goto (-97), 3) := by decide +kernel
theorem dL_law_259 : decode cL_law 259 = .ok (.iconst 0, 1) := by decide +kernel
theorem dL_law_260 : decode cL_law 260 = .ok (.istore 13, 2) := by decide +kernel
theorem dL_law_262 : decode cL_law 262 = .ok (.iload 13, 2) := by decide +kernel
theorem dL_law_264 : decode cL_law 264 = .ok (.iload 5, 2) := by decide +kernel
theorem dL_law_266 : decode cL_law 266 = .ok (.if_icmp .ge 385, 3) := by decide +kernel
theorem dL_law_269 : decode cL_law 269 = .ok (.aload_n 1, 1) := by decide +kernel
theorem dL_law_270 : decode cL_law 270 = .ok (.iload 13, 2) := by decide +kernel
theorem dL_law_272 : decode cL_law 272 = .ok (.invokevirtual 136, 3) := by decide +kernel
theorem dL_law_275 : decode cL_law 275 = .ok (.istore 14, 2) := by decide +kernel
theorem dL_law_277 : decode cL_law 277 = .ok (.aload_n 1, 1) := by decide +kernel
theorem dL_law_278 : decode cL_law 278 = .ok (.iload 13, 2) := by decide +kernel
theorem dL_law_280 : decode cL_law 280 = .ok (.invokevirtual 139, 3) := by decide +kernel
theorem dL_law_283 : decode cL_law 283 = .ok (.iconst 1, 1) := by decide +kernel
theorem dL_law_284 : decode cL_law 284 = .ok (.if_icmp .lt 33, 3) := by decide +kernel
theorem dL_law_287 : decode cL_law 287 = .ok (.iload 14, 2) := by decide +kernel
theorem dL_law_289 : decode cL_law 289 = .ok (.iload 13, 2) := by decide +kernel
theorem dL_law_291 : decode cL_law 291 = .ok (.if_icmp .ge 26, 3) := by decide +kernel
theorem dL_law_294 : decode cL_law 294 = .ok (.iload 14, 2) := by decide +kernel
theorem dL_law_296 : decode cL_law 296 = .ok (.iconst (-1), 1) := by decide +kernel
theorem dL_law_297 : decode cL_law 297 = .ok (.if_icmp .lt 20, 3) := by decide +kernel
theorem dL_law_300 : decode cL_law 300 = .ok (.aload_n 1, 1) := by decide +kernel
theorem dL_law_301 : decode cL_law 301 = .ok (.iload 13, 2) := by decide +kernel
theorem dL_law_303 : decode cL_law 303 = .ok (.iload 13, 2) := by decide +kernel
theorem dL_law_305 : decode cL_law 305 = .ok (.invokevirtual 140, 3) := by decide +kernel
theorem dL_law_308 : decode cL_law 308 = .ok (.aload_n 1, 1) := by decide +kernel
theorem dL_law_309 : decode cL_law 309 = .ok (.iload 13, 2) := by decide +kernel
theorem dL_law_311 : decode cL_law 311 = .ok (.invokevirtual 139, 3) := by decide +kernel
theorem dL_law_314 : decode cL_law 314 = .ok (.if_icmp .eq 5, 3) := by decide +kernel
theorem dL_law_317 : decode cL_law 317 = .ok (.iconst 0, 1) := by decide +kernel
theorem dL_law_318 : decode cL_law 318 = .ok (.ireturn, 1) := by decide +kernel
theorem dL_law_319 : decode cL_law 319 = .ok (.iload 14, 2) := by decide +kernel
theorem dL_law_321 : decode cL_law 321 = .ok (.ifCond .lt 76, 3) := by decide +kernel
theorem dL_law_324 : decode cL_law 324 = .ok (.aload_n 1, 1) := by decide +kernel
theorem dL_law_325 : decode cL_law 325 = .ok (.iload 13, 2) := by decide +kernel
theorem dL_law_327 : decode cL_law 327 = .ok (.invokevirtual 143, 3) := by decide +kernel
theorem dL_law_330 : decode cL_law 330 = .ok (.aload_n 1, 1) := by decide +kernel
theorem dL_law_331 : decode cL_law 331 = .ok (.iload 14, 2) := by decide +kernel
theorem dL_law_333 : decode cL_law 333 = .ok (.invokevirtual 143, 3) := by decide +kernel
theorem dL_law_336 : decode cL_law 336 = .ok (.if_icmp .ne 59, 3) := by decide +kernel
theorem dL_law_339 : decode cL_law 339 = .ok (.aload_n 1, 1) := by decide +kernel
theorem dL_law_340 : decode cL_law 340 = .ok (.iload 13, 2) := by decide +kernel
theorem dL_law_342 : decode cL_law 342 = .ok (.iload 14, 2) := by decide +kernel
theorem dL_law_344 : decode cL_law 344 = .ok (.invokevirtual 146, 3) := by decide +kernel
theorem dL_law_347 : decode cL_law 347 = .ok (.iconst 1, 1) := by decide +kernel
theorem dL_law_348 : decode cL_law 348 = .ok (.if_icmp .ne 47, 3) := by decide +kernel
theorem dL_law_351 : decode cL_law 351 = .ok (.aload_n 1, 1) := by decide +kernel
theorem dL_law_352 : decode cL_law 352 = .ok (.iload 14, 2) := by decide +kernel
theorem dL_law_354 : decode cL_law 354 = .ok (.invokevirtual 149, 3) := by decide +kernel
theorem dL_law_357 : decode cL_law 357 = .ok (.iconst 1, 1) := by decide +kernel
theorem dL_law_358 : decode cL_law 358 = .ok (.if_icmp .lt 37, 3) := by decide +kernel
theorem dL_law_361 : decode cL_law 361 = .ok (.aload_n 1, 1) := by decide +kernel
theorem dL_law_362 : decode cL_law 362 = .ok (.iload 13, 2) := by decide +kernel
theorem dL_law_364 : decode cL_law 364 = .ok (.iload 14, 2) := by decide +kernel
theorem dL_law_366 : decode cL_law 366 = .ok (.invokevirtual 140, 3) := by decide +kernel
theorem dL_law_369 : decode cL_law 369 = .ok (.aload_n 1, 1) := by decide +kernel
theorem dL_law_370 : decode cL_law 370 = .ok (.iload 14, 2) := by decide +kernel
theorem dL_law_372 : decode cL_law 372 = .ok (.invokevirtual 139, 3) := by decide +kernel
theorem dL_law_375 : decode cL_law 375 = .ok (.iconst 1, 1) := by decide +kernel
theorem dL_law_376 : decode cL_law 376 = .ok (.isub, 1) := by decide +kernel
theorem dL_law_377 : decode cL_law 377 = .ok (.if_icmp .lt 18, 3) := by decide +kernel
theorem dL_law_380 : decode cL_law 380 = .ok (.aload_n 1, 1) := by decide +kernel
theorem dL_law_381 : decode cL_law 381 = .ok (.iload 13, 2) := by decide +kernel
theorem dL_law_383 : decode cL_law 383 = .ok (.invokevirtual 139, 3) := by decide +kernel
theorem dL_law_386 : decode cL_law 386 = .ok (.aload_n 1, 1) := by decide +kernel
theorem dL_law_387 : decode cL_law 387 = .ok (.iload 14, 2) := by decide +kernel
theorem dL_law_389 : decode cL_law 389 = .ok (.invokevirtual 139, 3) := by decide +kernel
theorem dL_law_392 : decode cL_law 392 = .ok (.if_icmp .ge 5, 3) := by decide +kernel
theorem dL_law_395 : decode cL_law 395 = .ok (.iconst 0, 1) := by decide +kernel
theorem dL_law_396 : decode cL_law 396 = .ok (.ireturn, 1) := by decide +kernel
theorem dL_law_397 : decode cL_law 397 = .ok (.iload 9, 2) := by decide +kernel
theorem dL_law_399 : decode cL_law 399 = .ok (.aload_n 1, 1) := by decide +kernel
theorem dL_law_400 : decode cL_law 400 = .ok (.iload 13, 2) := by decide +kernel
theorem dL_law_402 : decode cL_law 402 = .ok (.invokevirtual 152, 3) := by decide +kernel
theorem dL_law_405 : decode cL_law 405 = .ok (.iadd, 1) := by decide +kernel
theorem dL_law_406 : decode cL_law 406 = .ok (.istore 9, 2) := by decide +kernel
theorem dL_law_408 : decode cL_law 408 = .ok (.iload 11, 2) := by decide +kernel
theorem dL_law_410 : decode cL_law 410 = .ok (.aload_n 1, 1) := by decide +kernel
theorem dL_law_411 : decode cL_law 411 = .ok (.iload 13, 2) := by decide +kernel
theorem dL_law_413 : decode cL_law 413 = .ok (.invokevirtual 139, 3) := by decide +kernel
theorem dL_law_416 : decode cL_law 416 = .ok (.iadd, 1) := by decide +kernel
theorem dL_law_417 : decode cL_law 417 = .ok (.istore 11, 2) := by decide +kernel
theorem dL_law_419 : decode cL_law 419 = .ok (.iconst 0, 1) := by decide +kernel
theorem dL_law_420 : decode cL_law 420 = .ok (.istore 15, 2) := by decide +kernel
theorem dL_law_422 : decode cL_law 422 = .ok (.iload 15, 2) := by decide +kernel
theorem dL_law_424 : decode cL_law 424 = .ok (.bipush 6, 2) := by decide +kernel
theorem dL_law_426 : decode cL_law 426 = .ok (.if_icmp .ge 219, 3) := by decide +kernel
theorem dL_law_429 : decode cL_law 429 = .ok (.aload_n 1, 1) := by decide +kernel
theorem dL_law_430 : decode cL_law 430 = .ok (.iload 13, 2) := by decide +kernel
theorem dL_law_432 : decode cL_law 432 = .ok (.iload 15, 2) := by decide +kernel
theorem dL_law_434 : decode cL_law 434 = .ok (.invokevirtual 118, 3) := by decide +kernel
theorem dL_law_437 : decode cL_law 437 = .ok (.istore 16, 2) := by decide +kernel
theorem dL_law_439 : decode cL_law 439 = .ok (.aload_n 1, 1) := by decide +kernel
theorem dL_law_440 : decode cL_law 440 = .ok (.iload 13, 2) := by decide +kernel
theorem dL_law_442 : decode cL_law 442 = .ok (.iload 15, 2) := by decide +kernel
theorem dL_law_444 : decode cL_law 444 = .ok (.invokevirtual 155, 3) := by decide +kernel
theorem dL_law_447 : decode cL_law 447 = .ok (.istore 17, 2) := by decide +kernel
theorem dL_law_449 : decode cL_law 449 = .ok (.iload 12, 2) := by decide +kernel
theorem dL_law_451 : decode cL_law 451 = .ok (.aload 6, 2) := by decide +kernel
theorem dL_law_453 : decode cL_law 453 = .ok (.iload 13, 2) := by decide +kernel
theorem dL_law_455 : decode cL_law 455 = .ok (.aaload, 1) := by decide +kernel
theorem dL_law_456 : decode cL_law 456 = .ok (.iload 15, 2) := by decide +kernel
theorem dL_law_458 : decode cL_law 458 = .ok (.baload, 1) := by decide +kernel
theorem dL_law_459 : decode cL_law 459 = .ok (.ifCond .eq 12, 3) := by decide +kernel
theorem dL_law_462 : decode cL_law 462 = .ok (.iload 17, 2) := by decide +kernel
theorem dL_law_464 : decode cL_law 464 = .ok (.ifCond .eq 7, 3) := by decide +kernel
theorem dL_law_467 : decode cL_law 467 = .ok (.iconst 1, 1) := by decide +kernel
theorem dL_law_468 : decode cL_law 468 = .ok (.goto 4, 3) := by decide +kernel
theorem dL_law_471 : decode cL_law 471 = .ok (.iconst 0, 1) := by decide +kernel
theorem dL_law_472 : decode cL_law 472 = .ok (.iadd, 1) := by decide +kernel
theorem dL_law_473 : decode cL_law 473 = .ok (.istore 12, 2) := by decide +kernel
theorem dL_law_475 : decode cL_law 475 = .ok (.iload 16, 2) := by decide +kernel
theorem dL_law_477 : decode cL_law 477 = .ok (.ifCond .eq 8, 3) := by decide +kernel
theorem dL_law_480 : decode cL_law 480 = .ok (.iload 17, 2) := by decide +kernel
theorem dL_law_482 : decode cL_law 482 = .ok (.ifCond .ne 24, 3) := by decide +kernel
theorem dL_law_485 : decode cL_law 485 = .ok (.aload 6, 2) := by decide +kernel
theorem dL_law_487 : decode cL_law 487 = .ok (.iload 13, 2) := by decide +kernel
theorem dL_law_489 : decode cL_law 489 = .ok (.aaload, 1) := by decide +kernel
theorem dL_law_490 : decode cL_law 490 = .ok (.iload 15, 2) := by decide +kernel
theorem dL_law_492 : decode cL_law 492 = .ok (.baload, 1) := by decide +kernel
theorem dL_law_493 : decode cL_law 493 = .ok (.ifCond .eq 15, 3) := by decide +kernel
theorem dL_law_496 : decode cL_law 496 = .ok (.iload 17, 2) := by decide +kernel
theorem dL_law_498 : decode cL_law 498 = .ok (.ifCond .ne 10, 3) := by decide +kernel
theorem dL_law_501 : decode cL_law 501 = .ok (.iload 16, 2) := by decide +kernel
theorem dL_law_503 : decode cL_law 503 = .ok (.ifCond .ne 5, 3) := by decide +kernel
theorem dL_law_506 : decode cL_law 506 = .ok (.iconst 0, 1) := by decide +kernel
theorem dL_law_507 : decode cL_law 507 = .ok (.ireturn, 1) := by decide +kernel
theorem dL_law_508 : decode cL_law 508 = .ok (.iload 16, 2) := by decide +kernel
theorem dL_law_510 : decode cL_law 510 = .ok (.ifCond .eq 129, 3) := by decide +kernel
theorem dL_law_513 : decode cL_law 513 = .ok (.aload 6, 2) := by decide +kernel
theorem dL_law_515 : decode cL_law 515 = .ok (.iload 13, 2) := by decide +kernel
theorem dL_law_517 : decode cL_law 517 = .ok (.aaload, 1) := by decide +kernel
theorem dL_law_518 : decode cL_law 518 = .ok (.iload 15, 2) := by decide +kernel
theorem dL_law_520 : decode cL_law 520 = .ok (.baload, 1) := by decide +kernel
theorem dL_law_521 : decode cL_law 521 = .ok (.ifCond .eq 6, 3) := by decide +kernel
theorem dL_law_524 : decode cL_law 524 = .ok (.goto 115, 3) := by decide +kernel
theorem dL_law_527 : decode cL_law 527 = .ok (.iconst 0, 1) := by decide +kernel
theorem dL_law_528 : decode cL_law 528 = .ok (.istore 18, 2) := by decide +kernel
theorem dL_law_530 : decode cL_law 530 = .ok (.iconst 0, 1) := by decide +kernel
theorem dL_law_531 : decode cL_law 531 = .ok (.istore 19, 2) := by decide +kernel
theorem dL_law_533 : decode cL_law 533 = .ok (.iload 19, 2) := by decide +kernel
theorem dL_law_535 : decode cL_law 535 = .ok (.bipush 6, 2) := by decide +kernel
theorem dL_law_537 : decode cL_law 537 = .ok (.if_icmp .ge 95, 3) := by decide +kernel
theorem dL_law_540 : decode cL_law 540 = .ok (.aload_n 1, 1) := by decide +kernel
theorem dL_law_541 : decode cL_law 541 = .ok (.iload 19, 2) := by decide +kernel
theorem dL_law_543 : decode cL_law 543 = .ok (.iload 15, 2) := by decide +kernel
theorem dL_law_545 : decode cL_law 545 = .ok (.invokevirtual 133, 3) := by decide +kernel
theorem dL_law_548 : decode cL_law 548 = .ok (.ifCond .ne 6, 3) := by decide +kernel
theorem dL_law_551 : decode cL_law 551 = .ok (.goto 75, 3) := by decide +kernel
theorem dL_law_554 : decode cL_law 554 = .ok (.iload 18, 2) := by decide +kernel
theorem dL_law_556 : decode cL_law 556 = .ok (.ifCond .ne 63, 3) := by decide +kernel
theorem dL_law_559 : decode cL_law 559 = .ok (.aload 6, 2) := by decide +kernel
theorem dL_law_561 : decode cL_law 561 = .ok (.iload 13, 2) := by decide +kernel
theorem dL_law_563 : decode cL_law 563 = .ok (.aaload, 1) := by decide +kernel
theorem dL_law_564 : decode cL_law 564 = .ok (.iload 19, 2) := by decide +kernel
theorem dL_law_566 : decode cL_law 566 = .ok (.baload, 1) := by decide +kernel
theorem dL_law_567 : decode cL_law 567 = .ok (.ifCond .eq 14, 3) := by decide +kernel
theorem dL_law_570 : decode cL_law 570 = .ok (.aload_n 1, 1) := by decide +kernel
theorem dL_law_571 : decode cL_law 571 = .ok (.iload 13, 2) := by decide +kernel
theorem dL_law_573 : decode cL_law 573 = .ok (.iload 19, 2) := by decide +kernel
theorem dL_law_575 : decode cL_law 575 = .ok (.invokevirtual 155, 3) := by decide +kernel
theorem dL_law_578 : decode cL_law 578 = .ok (.ifCond .eq 41, 3) := by decide +kernel
theorem dL_law_581 : decode cL_law 581 = .ok (.iload 14, 2) := by decide +kernel
theorem dL_law_583 : decode cL_law 583 = .ok (.ifCond .lt 40, 3) := by decide +kernel
theorem dL_law_586 : decode cL_law 586 = .ok (.aload 6, 2) := by decide +kernel
theorem dL_law_588 : decode cL_law 588 = .ok (.iload 14, 2) := by decide +kernel
theorem dL_law_590 : decode cL_law 590 = .ok (.aaload, 1) := by decide +kernel
theorem dL_law_591 : decode cL_law 591 = .ok (.iload 19, 2) := by decide +kernel
theorem dL_law_593 : decode cL_law 593 = .ok (.baload, 1) := by decide +kernel
theorem dL_law_594 : decode cL_law 594 = .ok (.ifCond .eq 29, 3) := by decide +kernel
theorem dL_law_597 : decode cL_law 597 = .ok (.aload_n 1, 1) := by decide +kernel
theorem dL_law_598 : decode cL_law 598 = .ok (.iload 14, 2) := by decide +kernel
theorem dL_law_600 : decode cL_law 600 = .ok (.iload 19, 2) := by decide +kernel
theorem dL_law_602 : decode cL_law 602 = .ok (.invokevirtual 155, 3) := by decide +kernel
theorem dL_law_605 : decode cL_law 605 = .ok (.ifCond .ne 18, 3) := by decide +kernel
theorem dL_law_608 : decode cL_law 608 = .ok (.aload_n 1, 1) := by decide +kernel
theorem dL_law_609 : decode cL_law 609 = .ok (.iload 14, 2) := by decide +kernel
theorem dL_law_611 : decode cL_law 611 = .ok (.iload 15, 2) := by decide +kernel
theorem dL_law_613 : decode cL_law 613 = .ok (.invokevirtual 155, 3) := by decide +kernel
theorem dL_law_616 : decode cL_law 616 = .ok (.ifCond .eq 7, 3) := by decide +kernel
theorem dL_law_619 : decode cL_law 619 = .ok (.iconst 1, 1) := by decide +kernel
theorem dL_law_620 : decode cL_law 620 = .ok (.goto 4, 3) := by decide +kernel
theorem dL_law_623 : decode cL_law 623 = .ok (.iconst 0, 1) := by decide +kernel
theorem dL_law_624 : decode cL_law 624 = .ok (.istore 18, 2) := by decide +kernel
theorem dL_law_626 : decode cL_law 626 = .ok (.iinc 19 1, 3) := by decide +kernel
theorem dL_law_629 : decode cL_law 629 = .ok (.goto (-96), 3) := by decide +kernel
theorem dL_law_632 : decode cL_law 632 = .ok (.iload 18, 2) := by decide +kernel
theorem dL_law_634 : decode cL_law 634 = .ok (.ifCond .ne 5, 3) := by decide +kernel
theorem dL_law_637 : decode cL_law 637 = .ok (.iconst 0, 1) := by decide +kernel
theorem dL_law_638 : decode cL_law 638 = .ok (.ireturn, 1) := by decide +kernel
theorem dL_law_639 : decode cL_law 639 = .ok (.iinc 15 1, 3) := by decide +kernel
theorem dL_law_642 : decode cL_law 642 = .ok (.goto (-220), 3) := by decide +kernel
theorem dL_law_645 : decode cL_law 645 = .ok (.iinc 13 1, 3) := by decide +kernel
theorem dL_law_648 : decode cL_law 648 = .ok (.goto (-386), 3) := by decide +kernel
theorem dL_law_651 : decode cL_law 651 = .ok (.iload 9, 2) := by decide +kernel
theorem dL_law_653 : decode cL_law 653 = .ok (.iload 8, 2) := by decide +kernel
theorem dL_law_655 : decode cL_law 655 = .ok (.if_icmp .ne 51, 3) := by decide +kernel
theorem dL_law_658 : decode cL_law 658 = .ok (.iload 10, 2) := by decide +kernel
theorem dL_law_660 : decode cL_law 660 = .ok (.iload 8, 2) := by decide +kernel
theorem dL_law_662 : decode cL_law 662 = .ok (.if_icmp .ne 44, 3) := by decide +kernel
theorem dL_law_665 : decode cL_law 665 = .ok (.aload_n 1, 1) := by decide +kernel
theorem dL_law_666 : decode cL_law 666 = .ok (.invokevirtual 156, 3) := by decide +kernel
theorem dL_law_669 : decode cL_law 669 = .ok (.iload 8, 2) := by decide +kernel
theorem dL_law_671 : decode cL_law 671 = .ok (.if_icmp .ne 35, 3) := by decide +kernel
theorem dL_law_674 : decode cL_law 674 = .ok (.aload_n 1, 1) := by decide +kernel
theorem dL_law_675 : decode cL_law 675 = .ok (.invokevirtual 121, 3) := by decide +kernel
theorem dL_law_678 : decode cL_law 678 = .ok (.iload 7, 2) := by decide +kernel
theorem dL_law_680 : decode cL_law 680 = .ok (.iload 12, 2) := by decide +kernel
theorem dL_law_682 : decode cL_law 682 = .ok (.iadd, 1) := by decide +kernel
theorem dL_law_683 : decode cL_law 683 = .ok (.if_icmp .ne 23, 3) := by decide +kernel
theorem dL_law_686 : decode cL_law 686 = .ok (.iload 5, 2) := by decide +kernel
theorem dL_law_688 : decode cL_law 688 = .ok (.ifCond .le 20, 3) := by decide +kernel
theorem dL_law_691 : decode cL_law 691 = .ok (.aload_n 1, 1) := by decide +kernel
theorem dL_law_692 : decode cL_law 692 = .ok (.invokevirtual 157, 3) := by decide +kernel
theorem dL_law_695 : decode cL_law 695 = .ok (.iload 11, 2) := by decide +kernel
theorem dL_law_697 : decode cL_law 697 = .ok (.i2d, 1) := by decide +kernel
theorem dL_law_698 : decode cL_law 698 = .ok (.iload 5, 2) := by decide +kernel
theorem dL_law_700 : decode cL_law 700 = .ok (.i2d, 1) := by decide +kernel
theorem dL_law_701 : decode cL_law 701 = .ok (.ddiv, 1) := by decide +kernel
theorem dL_law_702 : decode cL_law 702 = .ok (.dcmp .l, 1) := by decide +kernel
theorem dL_law_703 : decode cL_law 703 = .ok (.ifCond .eq 5, 3) := by decide +kernel
theorem dL_law_706 : decode cL_law 706 = .ok (.iconst 0, 1) := by decide +kernel
theorem dL_law_707 : decode cL_law 707 = .ok (.ireturn, 1) := by decide +kernel
theorem dL_law_708 : decode cL_law 708 = .ok (.iconst 0, 1) := by decide +kernel
theorem dL_law_709 : decode cL_law 709 = .ok (.istore 13, 2) := by decide +kernel
theorem dL_law_711 : decode cL_law 711 = .ok (.iconst 0, 1) := by decide +kernel
theorem dL_law_712 : decode cL_law 712 = .ok (.istore 14, 2) := by decide +kernel
theorem dL_law_714 : decode cL_law 714 = .ok (.iload 14, 2) := by decide +kernel
theorem dL_law_716 : decode cL_law 716 = .ok (.bipush 12, 2) := by decide +kernel
theorem dL_law_718 : decode cL_law 718 = .ok (.if_icmp .ge 20, 3) := by decide +kernel
theorem dL_law_721 : decode cL_law 721 = .ok (.iload 13, 2) := by decide +kernel
theorem dL_law_723 : decode cL_law 723 = .ok (.aload_n 1, 1) := by decide +kernel
theorem dL_law_724 : decode cL_law 724 = .ok (.iload 14, 2) := by decide +kernel
theorem dL_law_726 : decode cL_law 726 = .ok (.invokevirtual 161, 3) := by decide +kernel
theorem dL_law_729 : decode cL_law 729 = .ok (.iadd, 1) := by decide +kernel
theorem dL_law_730 : decode cL_law 730 = .ok (.istore 13, 2) := by decide +kernel
theorem dL_law_732 : decode cL_law 732 = .ok (.iinc 14 1, 3) := by decide +kernel
theorem dL_law_735 : decode cL_law 735 = .ok (.goto (-21), 3) := by decide +kernel
theorem dL_law_738 : decode cL_law 738 = .ok (.iconst 0, 1) := by decide +kernel
theorem dL_law_739 : decode cL_law 739 = .ok (.istore 14, 2) := by decide +kernel
theorem dL_law_741 : decode cL_law 741 = .ok (.iconst 0, 1) := by decide +kernel
theorem dL_law_742 : decode cL_law 742 = .ok (.istore 15, 2) := by decide +kernel
theorem dL_law_744 : decode cL_law 744 = .ok (.iload 15, 2) := by decide +kernel
theorem dL_law_746 : decode cL_law 746 = .ok (.bipush 10, 2) := by decide +kernel
theorem dL_law_748 : decode cL_law 748 = .ok (.if_icmp .ge 20, 3) := by decide +kernel
theorem dL_law_751 : decode cL_law 751 = .ok (.iload 14, 2) := by decide +kernel
theorem dL_law_753 : decode cL_law 753 = .ok (.aload_n 1, 1) := by decide +kernel
theorem dL_law_754 : decode cL_law 754 = .ok (.iload 15, 2) := by decide +kernel
theorem dL_law_756 : decode cL_law 756 = .ok (.invokevirtual 164, 3) := by decide +kernel
theorem dL_law_759 : decode cL_law 759 = .ok (.iadd, 1) := by decide +kernel
theorem dL_law_760 : decode cL_law 760 = .ok (.istore 14, 2) := by decide +kernel
theorem dL_law_762 : decode cL_law 762 = .ok (.iinc 15 1, 3) := by decide +kernel
theorem dL_law_765 : decode cL_law 765 = .ok (.goto (-21), 3) := by decide +kernel
theorem dL_law_768 : decode cL_law 768 = .ok (.iload 13, 2) := by decide +kernel
theorem dL_law_770 : decode cL_law 770 = .ok (.iload 11, 2) := by decide +kernel
theorem dL_law_772 : decode cL_law 772 = .ok (.if_icmp .ne 60, 3) := by decide +kernel
theorem dL_law_775 : decode cL_law 775 = .ok (.iload 14, 2) := by decide +kernel
theorem dL_law_777 : decode cL_law 777 = .ok (.iload 5, 2) := by decide +kernel
theorem dL_law_779 : decode cL_law 779 = .ok (.if_icmp .ne 53, 3) := by decide +kernel
theorem dL_law_782 : decode cL_law 782 = .ok (.iload 8, 2) := by decide +kernel
theorem dL_law_784 : decode cL_law 784 = .ok (.ifCond .ne 7, 3) := by decide +kernel
theorem dL_law_787 : decode cL_law 787 = .ok (.iconst 1, 1) := by decide +kernel
theorem dL_law_788 : decode cL_law 788 = .ok (.goto 4, 3) := by decide +kernel
theorem dL_law_791 : decode cL_law 791 = .ok (.iconst 0, 1) := by decide +kernel
theorem dL_law_792 : decode cL_law 792 = .ok (.aload_n 1, 1) := by decide +kernel
theorem dL_law_793 : decode cL_law 793 = .ok (.invokevirtual 167, 3) := by decide +kernel
theorem dL_law_796 : decode cL_law 796 = .ok (.ifCond .ge 7, 3) := by decide +kernel
theorem dL_law_799 : decode cL_law 799 = .ok (.iconst 1, 1) := by decide +kernel
theorem dL_law_800 : decode cL_law 800 = .ok (.goto 4, 3) := by decide +kernel
theorem dL_law_803 : decode cL_law 803 = .ok (.iconst 0, 1) := by decide +kernel
theorem dL_law_804 : decode cL_law 804 = .ok (.if_icmp .ne 28, 3) := by decide +kernel
theorem dL_law_807 : decode cL_law 807 = .ok (.iload 8, 2) := by decide +kernel
theorem dL_law_809 : decode cL_law 809 = .ok (.ifCond .ne 7, 3) := by decide +kernel
theorem dL_law_812 : decode cL_law 812 = .ok (.iconst 1, 1) := by decide +kernel
theorem dL_law_813 : decode cL_law 813 = .ok (.goto 4, 3) := by decide +kernel
theorem dL_law_816 : decode cL_law 816 = .ok (.iconst 0, 1) := by decide +kernel
theorem dL_law_817 : decode cL_law 817 = .ok (.aload_n 1, 1) := by decide +kernel
theorem dL_law_818 : decode cL_law 818 = .ok (.invokevirtual 170, 3) := by decide +kernel
theorem dL_law_821 : decode cL_law 821 = .ok (.ifCond .ge 7, 3) := by decide +kernel
theorem dL_law_824 : decode cL_law 824 = .ok (.iconst 1, 1) := by decide +kernel
theorem dL_law_825 : decode cL_law 825 = .ok (.goto 4, 3) := by decide +kernel
theorem dL_law_828 : decode cL_law 828 = .ok (.iconst 0, 1) := by decide +kernel
theorem dL_law_829 : decode cL_law 829 = .ok (.if_icmp .eq 5, 3) := by decide +kernel
theorem dL_law_832 : decode cL_law 832 = .ok (.iconst 0, 1) := by decide +kernel
theorem dL_law_833 : decode cL_law 833 = .ok (.ireturn, 1) := by decide +kernel
theorem dL_law_834 : decode cL_law 834 = .ok (.iload 4, 2) := by decide +kernel
theorem dL_law_836 : decode cL_law 836 = .ok (.iconst 1, 1) := by decide +kernel
theorem dL_law_837 : decode cL_law 837 = .ok (.ishr, 1) := by decide +kernel
theorem dL_law_838 : decode cL_law 838 = .ok (.iload 5, 2) := by decide +kernel
theorem dL_law_840 : decode cL_law 840 = .ok (.invokestatic 15, 3) := by decide +kernel
theorem dL_law_843 : decode cL_law 843 = .ok (.istore 15, 2) := by decide +kernel
theorem dL_law_845 : decode cL_law 845 = .ok (.iload 4, 2) := by decide +kernel
theorem dL_law_847 : decode cL_law 847 = .ok (.iconst 4, 1) := by decide +kernel
theorem dL_law_848 : decode cL_law 848 = .ok (.ishr, 1) := by decide +kernel
theorem dL_law_849 : decode cL_law 849 = .ok (.bipush 6, 2) := by decide +kernel
theorem dL_law_851 : decode cL_law 851 = .ok (.invokestatic 15, 3) := by decide +kernel
theorem dL_law_854 : decode cL_law 854 = .ok (.istore 16, 2) := by decide +kernel
theorem dL_law_856 : decode cL_law 856 = .ok (.aload_n 1, 1) := by decide +kernel
theorem dL_law_857 : decode cL_law 857 = .ok (.iload 15, 2) := by decide +kernel
theorem dL_law_859 : decode cL_law 859 = .ok (.iload 16, 2) := by decide +kernel
theorem dL_law_861 : decode cL_law 861 = .ok (.invokevirtual 118, 3) := by decide +kernel
theorem dL_law_864 : decode cL_law 864 = .ok (.ifCond .ne 6, 3) := by decide +kernel
theorem dL_law_867 : decode cL_law 867 = .ok (.goto 74, 3) := by decide +kernel
theorem dL_law_870 : decode cL_law 870 = .ok (.aload_n 1, 1) := by decide +kernel
theorem dL_law_871 : decode cL_law 871 = .ok (.iload 15, 2) := by decide +kernel
theorem dL_law_873 : decode cL_law 873 = .ok (.invokevirtual 152, 3) := by decide +kernel
theorem dL_law_876 : decode cL_law 876 = .ok (.istore 17, 2) := by decide +kernel
theorem dL_law_878 : decode cL_law 878 = .ok (.aload_n 1, 1) := by decide +kernel
theorem dL_law_879 : decode cL_law 879 = .ok (.iload 15, 2) := by decide +kernel
theorem dL_law_881 : decode cL_law 881 = .ok (.iload 16, 2) := by decide +kernel
theorem dL_law_883 : decode cL_law 883 = .ok (.invokevirtual 87, 3) := by decide +kernel
theorem dL_law_886 : decode cL_law 886 = .ok (.iload 17, 2) := by decide +kernel
theorem dL_law_888 : decode cL_law 888 = .ok (.iconst 1, 1) := by decide +kernel
theorem dL_law_889 : decode cL_law 889 = .ok (.isub, 1) := by decide +kernel
theorem dL_law_890 : decode cL_law 890 = .ok (.if_icmp .ne 49, 3) := by decide +kernel
theorem dL_law_893 : decode cL_law 893 = .ok (.aload_n 1, 1) := by decide +kernel
theorem dL_law_894 : decode cL_law 894 = .ok (.iload 15, 2) := by decide +kernel
theorem dL_law_896 : decode cL_law 896 = .ok (.iload 16, 2) := by decide +kernel
theorem dL_law_898 : decode cL_law 898 = .ok (.invokevirtual 118, 3) := by decide +kernel
theorem dL_law_901 : decode cL_law 901 = .ok (.ifCond .ne 38, 3) := by decide +kernel
theorem dL_law_904 : decode cL_law 904 = .ok (.aload_n 1, 1) := by decide +kernel
theorem dL_law_905 : decode cL_law 905 = .ok (.invokevirtual 156, 3) := by decide +kernel
theorem dL_law_908 : decode cL_law 908 = .ok (.iload 8, 2) := by decide +kernel
theorem dL_law_910 : decode cL_law 910 = .ok (.iconst 1, 1) := by decide +kernel
theorem dL_law_911 : decode cL_law 911 = .ok (.isub, 1) := by decide +kernel
theorem dL_law_912 : decode cL_law 912 = .ok (.if_icmp .ne 27, 3) := by decide +kernel
theorem dL_law_915 : decode cL_law 915 = .ok (.aload_n 1, 1) := by decide +kernel
theorem dL_law_916 : decode cL_law 916 = .ok (.iload 15, 2) := by decide +kernel
theorem dL_law_918 : decode cL_law 918 = .ok (.iload 16, 2) := by decide +kernel
theorem dL_law_920 : decode cL_law 920 = .ok (.invokevirtual 81, 3) := by decide +kernel
theorem dL_law_923 : decode cL_law 923 = .ok (.iload 17, 2) := by decide +kernel
theorem dL_law_925 : decode cL_law 925 = .ok (.if_icmp .ne 14, 3) := by decide +kernel
theorem dL_law_928 : decode cL_law 928 = .ok (.aload_n 1, 1) := by decide +kernel
theorem dL_law_929 : decode cL_law 929 = .ok (.iload 15, 2) := by decide +kernel
theorem dL_law_931 : decode cL_law 931 = .ok (.iload 16, 2) := by decide +kernel
theorem dL_law_933 : decode cL_law 933 = .ok (.invokevirtual 118, 3) := by decide +kernel
theorem dL_law_936 : decode cL_law 936 = .ok (.ifCond .ne 5, 3) := by decide +kernel
theorem dL_law_939 : decode cL_law 939 = .ok (.iconst 0, 1) := by decide +kernel
theorem dL_law_940 : decode cL_law 940 = .ok (.ireturn, 1) := by decide +kernel
theorem dL_law_941 : decode cL_law 941 = .ok (.iinc 3 1, 3) := by decide +kernel
theorem dL_law_944 : decode cL_law 944 = .ok (.goto (-922), 3) := by decide +kernel
theorem dL_law_947 : decode cL_law 947 = .ok (.aload_n 2, 1) := by decide +kernel
theorem dL_law_948 : decode cL_law 948 = .ok (.aload_n 1, 1) := by decide +kernel
theorem dL_law_949 : decode cL_law 949 = .ok (.invokevirtual 173, 3) := by decide +kernel
theorem dL_law_952 : decode cL_law 952 = .ok (.ireturn, 1) := by decide +kernel
