theorem dX3_init_0 : decode cX3_init 0 = .ok (.aload_n 0, 1) := by decide +kernel
theorem dX3_init_1 : decode cX3_init 1 = .ok (.invokespecial 1, 3) := by decide +kernel
theorem dX3_init_4 : decode cX3_init 4 = .ok (.aload_n 0, 1) := by decide +kernel
theorem dX3_init_5 : decode cX3_init 5 = .ok (.bipush 20, 2) := by decide +kernel
theorem dX3_init_7 : decode cX3_init 7 = .ok (.anewarray 7, 3) := by decide +kernel
theorem dX3_init_10 : decode cX3_init 10 = .ok (.putfield 9, 3) := by decide +kernel
theorem dX3_init_13 : decode cX3_init 13 = .ok (.aload_n 0, 1) := by decide +kernel
theorem dX3_init_14 : decode cX3_init 14 = .ok (.bipush 20, 2) := by decide +kernel
theorem dX3_init_16 : decode cX3_init 16 = .ok (.anewarray 15, 3) := by decide +kernel
theorem dX3_init_19 : decode cX3_init 19 = .ok (.putfield 17, 3) := by decide +kernel
theorem dX3_init_22 : decode cX3_init 22 = .ok (.aload_n 0, 1) := by decide +kernel
theorem dX3_init_23 : decode cX3_init 23 = .ok (.bipush 20, 2) := by decide +kernel
theorem dX3_init_25 : decode cX3_init 25 = .ok (.bipush 6, 2) := by decide +kernel
theorem dX3_init_27 : decode cX3_init 27 = .ok (.multianewarray 21 2, 4) := by decide +kernel
theorem dX3_init_31 : decode cX3_init 31 = .ok (.putfield 22, 3) := by decide +kernel
theorem dX3_init_34 : decode cX3_init 34 = .ok (.aload_n 0, 1) := by decide +kernel
theorem dX3_init_35 : decode cX3_init 35 = .ok (.bipush 6, 2) := by decide +kernel
theorem dX3_init_37 : decode cX3_init 37 = .ok (.bipush 10, 2) := by decide +kernel
theorem dX3_init_39 : decode cX3_init 39 = .ok (.multianewarray 21 2, 4) := by decide +kernel
theorem dX3_init_43 : decode cX3_init 43 = .ok (.putfield 25, 3) := by decide +kernel
theorem dX3_init_46 : decode cX3_init 46 = .ok (.aload_n 0, 1) := by decide +kernel
theorem dX3_init_47 : decode cX3_init 47 = .ok (.bipush 6, 2) := by decide +kernel
theorem dX3_init_49 : decode cX3_init 49 = .ok (.bipush 12, 2) := by decide +kernel
theorem dX3_init_51 : decode cX3_init 51 = .ok (.multianewarray 21 2, 4) := by decide +kernel
theorem dX3_init_55 : decode cX3_init 55 = .ok (.putfield 28, 3) := by decide +kernel
theorem dX3_init_58 : decode cX3_init 58 = .ok (.aload_n 0, 1) := by decide +kernel
theorem dX3_init_59 : decode cX3_init 59 = .ok (.bipush 6, 2) := by decide +kernel
theorem dX3_init_61 : decode cX3_init 61 = .ok (.bipush 6, 2) := by decide +kernel
theorem dX3_init_63 : decode cX3_init 63 = .ok (.multianewarray 21 2, 4) := by decide +kernel
theorem dX3_init_67 : decode cX3_init 67 = .ok (.putfield 31, 3) := by decide +kernel
theorem dX3_init_70 : decode cX3_init 70 = .ok (.return_, 1) := by decide +kernel
theorem dX3_isBanned_0 : decode cX3_isBanned 0 = .ok (.aload_n 0, 1) := by decide +kernel
theorem dX3_isBanned_1 : decode cX3_isBanned 1 = .ok (.getfield 25, 3) := by decide +kernel
theorem dX3_isBanned_4 : decode cX3_isBanned 4 = .ok (.iload_n 2, 1) := by decide +kernel
theorem dX3_isBanned_5 : decode cX3_isBanned 5 = .ok (.aaload, 1) := by decide +kernel
theorem dX3_isBanned_6 : decode cX3_isBanned 6 = .ok (.aload_n 0, 1) := by decide +kernel
theorem dX3_isBanned_7 : decode cX3_isBanned 7 = .ok (.getfield 9, 3) := by decide +kernel
theorem dX3_isBanned_10 : decode cX3_isBanned 10 = .ok (.iload_n 1, 1) := by decide +kernel
theorem dX3_isBanned_11 : decode cX3_isBanned 11 = .ok (.aaload, 1) := by decide +kernel
theorem dX3_isBanned_12 : decode cX3_isBanned 12 = .ok (.iconst 0, 1) := by decide +kernel
theorem dX3_isBanned_13 : decode cX3_isBanned 13 = .ok (.iaload, 1) := by decide +kernel
theorem dX3_isBanned_14 : decode cX3_isBanned 14 = .ok (.baload, 1) := by decide +kernel
theorem dX3_isBanned_15 : decode cX3_isBanned 15 = .ok (.istore_n 3, 1) := by decide +kernel
theorem dX3_isBanned_16 : decode cX3_isBanned 16 = .ok (.iconst 0, 1) := by decide +kernel
theorem dX3_isBanned_17 : decode cX3_isBanned 17 = .ok (.istore 4, 2) := by decide +kernel
theorem dX3_isBanned_19 : decode cX3_isBanned 19 = .ok (.iload 4, 2) := by decide +kernel
theorem dX3_isBanned_21 : decode cX3_isBanned 21 = .ok (.bipush 12, 2) := by decide +kernel
theorem dX3_isBanned_23 : decode cX3_isBanned 23 = .ok (.if_icmp .ge 43, 3) := by decide +kernel
theorem dX3_isBanned_26 : decode cX3_isBanned 26 = .ok (.iload_n 3, 1) := by decide +kernel
theorem dX3_isBanned_27 : decode cX3_isBanned 27 = .ok (.ifCond .ne 27, 3) := by decide +kernel
theorem dX3_isBanned_30 : decode cX3_isBanned 30 = .ok (.aload_n 0, 1) := by decide +kernel
theorem dX3_isBanned_31 : decode cX3_isBanned 31 = .ok (.getfield 17, 3) := by decide +kernel
theorem dX3_isBanned_34 : decode cX3_isBanned 34 = .ok (.iload_n 1, 1) := by decide +kernel
theorem dX3_isBanned_35 : decode cX3_isBanned 35 = .ok (.aaload, 1) := by decide +kernel
theorem dX3_isBanned_36 : decode cX3_isBanned 36 = .ok (.iload 4, 2) := by decide +kernel
theorem dX3_isBanned_38 : decode cX3_isBanned 38 = .ok (.baload, 1) := by decide +kernel
theorem dX3_isBanned_39 : decode cX3_isBanned 39 = .ok (.ifCond .eq 19, 3) := by decide +kernel
theorem dX3_isBanned_42 : decode cX3_isBanned 42 = .ok (.aload_n 0, 1) := by decide +kernel
theorem dX3_isBanned_43 : decode cX3_isBanned 43 = .ok (.getfield 28, 3) := by decide +kernel
theorem dX3_isBanned_46 : decode cX3_isBanned 46 = .ok (.iload_n 2, 1) := by decide +kernel
theorem dX3_isBanned_47 : decode cX3_isBanned 47 = .ok (.aaload, 1) := by decide +kernel
theorem dX3_isBanned_48 : decode cX3_isBanned 48 = .ok (.iload 4, 2) := by decide +kernel
theorem dX3_isBanned_50 : decode cX3_isBanned 50 = .ok (.baload, 1) := by decide +kernel
theorem dX3_isBanned_51 : decode cX3_isBanned 51 = .ok (.ifCond .eq 7, 3) := by decide +kernel
theorem dX3_isBanned_54 : decode cX3_isBanned 54 = .ok (.iconst 1, 1) := by decide +kernel
theorem dX3_isBanned_55 : decode cX3_isBanned 55 = .ok (.goto 4, 3) := by decide +kernel
theorem dX3_isBanned_58 : decode cX3_isBanned 58 = .ok (.iconst 0, 1) := by decide +kernel
theorem dX3_isBanned_59 : decode cX3_isBanned 59 = .ok (.istore_n 3, 1) := by decide +kernel
theorem dX3_isBanned_60 : decode cX3_isBanned 60 = .ok (.iinc 4 1, 3) := by decide +kernel
theorem dX3_isBanned_63 : decode cX3_isBanned 63 = .ok (.goto (-44), 3) := by decide +kernel
theorem dX3_isBanned_66 : decode cX3_isBanned 66 = .ok (.iload_n 3, 1) := by decide +kernel
theorem dX3_isBanned_67 : decode cX3_isBanned 67 = .ok (.ireturn, 1) := by decide +kernel
set_option maxRecDepth 20000 in
theorem ggX3_pass_X3_isBanned : GoodIn wsX3_pass wsX3_isBanned := goodIn_r _ [14, 7, 8, 15, 16, 17, 18, 19, 20, 21, 22, 23, 24, 25] (by decide +kernel) (by decide +kernel)
set_option maxRecDepth 20000 in
theorem gX3_pass_X3_isBanned : GoodIn wsX3_pass (wsV RX3 49 RX3 yX3_isBanned wsX3_isBanned) := goodIn_app (goodIn_of _ (by decide +kernel)) ggX3_pass_X3_isBanned
theorem dX3_pass_0 : decode cX3_pass 0 = .ok (.iconst 0, 1) := by decide +kernel
theorem dX3_pass_1 : decode cX3_pass 1 = .ok (.istore_n 1, 1) := by decide +kernel
theorem dX3_pass_2 : decode cX3_pass 2 = .ok (.iload_n 1, 1) := by decide +kernel
theorem dX3_pass_3 : decode cX3_pass 3 = .ok (.aload_n 0, 1) := by decide +kernel
theorem dX3_pass_4 : decode cX3_pass 4 = .ok (.getfield 35, 3) := by decide +kernel
theorem dX3_pass_7 : decode cX3_pass 7 = .ok (.if_icmp .ge 65, 3) := by decide +kernel
theorem dX3_pass_10 : decode cX3_pass 10 = .ok (.iconst 0, 1) := by decide +kernel
theorem dX3_pass_11 : decode cX3_pass 11 = .ok (.istore_n 2, 1) := by decide +kernel
theorem dX3_pass_12 : decode cX3_pass 12 = .ok (.iload_n 2, 1) := by decide +kernel
theorem dX3_pass_13 : decode cX3_pass 13 = .ok (.bipush 6, 2) := by decide +kernel
theorem dX3_pass_15 : decode cX3_pass 15 = .ok (.if_icmp .ge 51, 3) := by decide +kernel
theorem dX3_pass_18 : decode cX3_pass 18 = .ok (.aload_n 0, 1) := by decide +kernel
theorem dX3_pass_19 : decode cX3_pass 19 = .ok (.getfield 22, 3) := by decide +kernel
theorem dX3_pass_22 : decode cX3_pass 22 = .ok (.iload_n 1, 1) := by decide +kernel
theorem dX3_pass_23 : decode cX3_pass 23 = .ok (.aaload, 1) := by decide +kernel
theorem dX3_pass_24 : decode cX3_pass 24 = .ok (.iload_n 2, 1) := by decide +kernel
theorem dX3_pass_25 : decode cX3_pass 25 = .ok (.baload, 1) := by decide +kernel
theorem dX3_pass_26 : decode cX3_pass 26 = .ok (.ifCond .eq 34, 3) := by decide +kernel
theorem dX3_pass_29 : decode cX3_pass 29 = .ok (.aload_n 0, 1) := by decide +kernel
theorem dX3_pass_30 : decode cX3_pass 30 = .ok (.iload_n 1, 1) := by decide +kernel
theorem dX3_pass_31 : decode cX3_pass 31 = .ok (.iload_n 2, 1) := by decide +kernel
theorem dX3_pass_32 : decode cX3_pass 32 = .ok (.invokevirtual 49, 3) := by decide +kernel
theorem dX3_pass_35 : decode cX3_pass 35 = .ok (.ifCond .ne 6, 3) := by decide +kernel
theorem dX3_pass_38 : decode cX3_pass 38 = .ok (.goto 22, 3) := by decide +kernel
theorem dX3_pass_41 : decode cX3_pass 41 = .ok (.aload_n 0, 1) := by decide +kernel
theorem dX3_pass_42 : decode cX3_pass 42 = .ok (.getfield 22, 3) := by decide +kernel
theorem dX3_pass_45 : decode cX3_pass 45 = .ok (.iload_n 1, 1) := by decide +kernel
theorem dX3_pass_46 : decode cX3_pass 46 = .ok (.aaload, 1) := by decide +kernel
theorem dX3_pass_47 : decode cX3_pass 47 = .ok (.iload_n 2, 1) := by decide +kernel
theorem dX3_pass_48 : decode cX3_pass 48 = .ok (.iconst 0, 1) := by decide +kernel
theorem dX3_pass_49 : decode cX3_pass 49 = .ok (.bastore, 1) := by decide +kernel
theorem dX3_pass_50 : decode cX3_pass 50 = .ok (.aload_n 0, 1) := by decide +kernel
theorem dX3_pass_51 : decode cX3_pass 51 = .ok (.dup, 1) := by decide +kernel
theorem dX3_pass_52 : decode cX3_pass 52 = .ok (.getfield 42, 3) := by decide +kernel
theorem dX3_pass_55 : decode cX3_pass 55 = .ok (.iconst 1, 1) := by decide +kernel
theorem dX3_pass_56 : decode cX3_pass 56 = .ok (.iadd, 1) := by decide +kernel
theorem dX3_pass_57 : decode cX3_pass 57 = .ok (.putfield 42, 3) := by decide +kernel
theorem dX3_pass_60 : decode cX3_pass 60 = .ok (.iinc 2 1, 3) := by decide +kernel
theorem dX3_pass_63 : decode cX3_pass 63 = .ok (.goto (-51), 3) := by decide +kernel
theorem dX3_pass_66 : decode cX3_pass 66 = .ok (.iinc 1 1, 3) := by decide +kernel
theorem dX3_pass_69 : decode cX3_pass 69 = .ok (.goto (-67), 3) := by decide +kernel
theorem dX3_pass_72 : decode cX3_pass 72 = .ok (.bipush 20, 2) := by decide +kernel
theorem dX3_pass_74 : decode cX3_pass 74 = .ok (.bipush 6, 2) := by decide +kernel
theorem dX3_pass_76 : decode cX3_pass 76 = .ok (.multianewarray 21 2, 4) := by decide +kernel
theorem dX3_pass_80 : decode cX3_pass 80 = .ok (.astore_n 1, 1) := by decide +kernel
theorem dX3_pass_81 : decode cX3_pass 81 = .ok (.iconst 0, 1) := by decide +kernel
theorem dX3_pass_82 : decode cX3_pass 82 = .ok (.istore_n 2, 1) := by decide +kernel
theorem dX3_pass_83 : decode cX3_pass 83 = .ok (.iload_n 2, 1) := by decide +kernel
theorem dX3_pass_84 : decode cX3_pass 84 = .ok (.aload_n 0, 1) := by decide +kernel
theorem dX3_pass_85 : decode cX3_pass 85 = .ok (.getfield 35, 3) := by decide +kernel
theorem dX3_pass_88 : decode cX3_pass 88 = .ok (.if_icmp .ge 169, 3) := by decide +kernel
theorem dX3_pass_91 : decode cX3_pass 91 = .ok (.iconst 0, 1) := by decide +kernel
theorem dX3_pass_92 : decode cX3_pass 92 = .ok (.istore_n 3, 1) := by decide +kernel
theorem dX3_pass_93 : decode cX3_pass 93 = .ok (.iload_n 3, 1) := by decide +kernel
theorem dX3_pass_94 : decode cX3_pass 94 = .ok (.bipush 6, 2) := by decide +kernel
theorem dX3_pass_96 : decode cX3_pass 96 = .ok (.if_icmp .ge 155, 3) := by decide +kernel
theorem dX3_pass_99 : decode cX3_pass 99 = .ok (.aload_n 0, 1) := by decide +kernel
theorem dX3_pass_100 : decode cX3_pass 100 = .ok (.getfield 22, 3) := by decide +kernel
theorem dX3_pass_103 : decode cX3_pass 103 = .ok (.iload_n 2, 1) := by decide +kernel
theorem dX3_pass_104 : decode cX3_pass 104 = .ok (.aaload, 1) := by decide +kernel
theorem dX3_pass_105 : decode cX3_pass 105 = .ok (.iload_n 3, 1) := by decide +kernel
theorem dX3_pass_106 : decode cX3_pass 106 = .ok (.baload, 1) := by decide +kernel
theorem dX3_pass_107 : decode cX3_pass 107 = .ok (.ifCond .ne 6, 3) := by decide +kernel
theorem dX3_pass_110 : decode cX3_pass 110 = .ok (.goto 135, 3) := by decide +kernel
theorem dX3_pass_113 : decode cX3_pass 113 = .ok (.aload_n 1, 1) := by decide +kernel
theorem dX3_pass_114 : decode cX3_pass 114 = .ok (.iload_n 2, 1) := by decide +kernel
theorem dX3_pass_115 : decode cX3_pass 115 = .ok (.aaload, 1) := by decide +kernel
theorem dX3_pass_116 : decode cX3_pass 116 = .ok (.iload_n 3, 1) := by decide +kernel
theorem dX3_pass_117 : decode cX3_pass 117 = .ok (.iconst 1, 1) := by decide +kernel
theorem dX3_pass_118 : decode cX3_pass 118 = .ok (.bastore, 1) := by decide +kernel
theorem dX3_pass_119 : decode cX3_pass 119 = .ok (.iconst 0, 1) := by decide +kernel
theorem dX3_pass_120 : decode cX3_pass 120 = .ok (.istore 4, 2) := by decide +kernel
theorem dX3_pass_122 : decode cX3_pass 122 = .ok (.iload 4, 2) := by decide +kernel
theorem dX3_pass_124 : decode cX3_pass 124 = .ok (.bipush 6, 2) := by decide +kernel
theorem dX3_pass_126 : decode cX3_pass 126 = .ok (.if_icmp .ge 119, 3) := by decide +kernel
theorem dX3_pass_129 : decode cX3_pass 129 = .ok (.aload_n 0, 1) := by decide +kernel
theorem dX3_pass_130 : decode cX3_pass 130 = .ok (.getfield 31, 3) := by decide +kernel
theorem dX3_pass_133 : decode cX3_pass 133 = .ok (.iload_n 3, 1) := by decide +kernel
theorem dX3_pass_134 : decode cX3_pass 134 = .ok (.aaload, 1) := by decide +kernel
theorem dX3_pass_135 : decode cX3_pass 135 = .ok (.iload 4, 2) := by decide +kernel
theorem dX3_pass_137 : decode cX3_pass 137 = .ok (.baload, 1) := by decide +kernel
theorem dX3_pass_138 : decode cX3_pass 138 = .ok (.ifCond .ne 6, 3) := by decide +kernel
theorem dX3_pass_141 : decode cX3_pass 141 = .ok (.goto 98, 3) := by decide +kernel
theorem dX3_pass_144 : decode cX3_pass 144 = .ok (.iload_n 2, 1) := by decide +kernel
theorem dX3_pass_145 : decode cX3_pass 145 = .ok (.istore 5, 2) := by decide +kernel
theorem dX3_pass_147 : decode cX3_pass 147 = .ok (.aload_n 0, 1) := by decide +kernel
theorem dX3_pass_148 : decode cX3_pass 148 = .ok (.iload_n 2, 1) := by decide +kernel
theorem dX3_pass_149 : decode cX3_pass 149 = .ok (.iload 4, 2) := by decide +kernel
theorem dX3_pass_151 : decode cX3_pass 151 = .ok (.invokevirtual 49, 3) := by decide +kernel
theorem dX3_pass_154 : decode cX3_pass 154 = .ok (.ifCond .eq 72, 3) := by decide +kernel
theorem dX3_pass_157 : decode cX3_pass 157 = .ok (.iconst (-1), 1) := by decide +kernel
theorem dX3_pass_158 : decode cX3_pass 158 = .ok (.istore 5, 2) := by decide +kernel
theorem dX3_pass_160 : decode cX3_pass 160 = .ok (.aload_n 0, 1) := by decide +kernel
theorem dX3_pass_161 : decode cX3_pass 161 = .ok (.getfield 35, 3) := by decide +kernel
theorem dX3_pass_164 : decode cX3_pass 164 = .ok (.iconst 1, 1) := by decide +kernel
theorem dX3_pass_165 : decode cX3_pass 165 = .ok (.isub, 1) := by decide +kernel
theorem dX3_pass_166 : decode cX3_pass 166 = .ok (.istore 6, 2) := by decide +kernel
theorem dX3_pass_168 : decode cX3_pass 168 = .ok (.iload 6, 2) := by decide +kernel
theorem dX3_pass_170 : decode cX3_pass 170 = .ok (.ifCond .lt 56, 3) := by decide +kernel
theorem dX3_pass_173 : decode cX3_pass 173 = .ok (.aload_n 0, 1) := by decide +kernel
theorem dX3_pass_174 : decode cX3_pass 174 = .ok (.getfield 25, 3) := by decide +kernel
theorem dX3_pass_177 : decode cX3_pass 177 = .ok (.iload 4, 2) := by decide +kernel
theorem dX3_pass_179 : decode cX3_pass 179 = .ok (.aaload, 1) := by decide +kernel
theorem dX3_pass_180 : decode cX3_pass 180 = .ok (.aload_n 0, 1) := by decide +kernel
theorem dX3_pass_181 : decode cX3_pass 181 = .ok (.getfield 9, 3) := by decide +kernel
theorem dX3_pass_184 : decode cX3_pass 184 = .ok (.iload_n 2, 1) := by decide +kernel
theorem dX3_pass_185 : decode cX3_pass 185 = .ok (.aaload, 1) := by decide +kernel
theorem dX3_pass_186 : decode cX3_pass 186 = .ok (.iconst 0, 1) := by decide +kernel
theorem dX3_pass_187 : decode cX3_pass 187 = .ok (.iaload, 1) := by decide +kernel
theorem dX3_pass_188 : decode cX3_pass 188 = .ok (.baload, 1) := by decide +kernel
theorem dX3_pass_189 : decode cX3_pass 189 = .ok (.ifCond .ne 37, 3) := by decide +kernel
theorem dX3_pass_192 : decode cX3_pass 192 = .ok (.aload_n 0, 1) := by decide +kernel
theorem dX3_pass_193 : decode cX3_pass 193 = .ok (.getfield 9, 3) := by decide +kernel
theorem dX3_pass_196 : decode cX3_pass 196 = .ok (.iload 6, 2) := by decide +kernel
theorem dX3_pass_198 : decode cX3_pass 198 = .ok (.aaload, 1) := by decide +kernel
theorem dX3_pass_199 : decode cX3_pass 199 = .ok (.iconst 2, 1) := by decide +kernel
theorem dX3_pass_200 : decode cX3_pass 200 = .ok (.iaload, 1) := by decide +kernel
theorem dX3_pass_201 : decode cX3_pass 201 = .ok (.iload_n 2, 1) := by decide +kernel
theorem dX3_pass_202 : decode cX3_pass 202 = .ok (.if_icmp .ne 18, 3) := by decide +kernel
theorem dX3_pass_205 : decode cX3_pass 205 = .ok (.aload_n 0, 1) := by decide +kernel
theorem dX3_pass_206 : decode cX3_pass 206 = .ok (.iload 6, 2) := by decide +kernel
theorem dX3_pass_208 : decode cX3_pass 208 = .ok (.iload 4, 2) := by decide +kernel
theorem dX3_pass_210 : decode cX3_pass 210 = .ok (.invokevirtual 49, 3) := by decide +kernel
theorem dX3_pass_213 : decode cX3_pass 213 = .ok (.ifCond .ne 7, 3) := by decide +kernel
theorem dX3_pass_216 : decode cX3_pass 216 = .ok (.iload 6, 2) := by decide +kernel
theorem dX3_pass_218 : decode cX3_pass 218 = .ok (.istore 5, 2) := by decide +kernel
theorem dX3_pass_220 : decode cX3_pass 220 = .ok (.iinc 6 (-1), 3) := by decide +kernel
theorem dX3_pass_223 : decode cX3_pass 223 = .ok (.goto (-55), 3) := by decide +kernel
theorem dX3_pass_226 : decode cX3_pass 226 = .ok (.iload 5, 2) := by decide +kernel
theorem dX3_pass_228 : decode cX3_pass 228 = .ok (.ifCond .lt 11, 3) := by decide +kernel
theorem dX3_pass_231 : decode cX3_pass 231 = .ok (.aload_n 1, 1) := by decide +kernel
theorem dX3_pass_232 : decode cX3_pass 232 = .ok (.iload 5, 2) := by decide +kernel
theorem dX3_pass_234 : decode cX3_pass 234 = .ok (.aaload, 1) := by decide +kernel
theorem dX3_pass_235 : decode cX3_pass 235 = .ok (.iload 4, 2) := by decide +kernel
theorem dX3_pass_237 : decode cX3_pass 237 = .ok (.iconst 1, 1) := by decide +kernel
theorem dX3_pass_238 : decode cX3_pass 238 = .ok (.bastore, 1) := by decide +kernel
theorem dX3_pass_239 : decode cX3_pass 239 = .ok (.iinc 4 1, 3) := by decide +kernel
theorem dX3_pass_242 : decode cX3_pass 242 = .ok (.goto (-120), 3) := by decide +kernel
theorem dX3_pass_245 : decode cX3_pass 245 = .ok (.iinc 3 1, 3) := by decide +kernel
theorem dX3_pass_248 : decode cX3_pass 248 = .ok (.goto (-155), 3) := by decide +kernel
theorem dX3_pass_251 : decode cX3_pass 251 = .ok (.iinc 2 1, 3) := by decide +kernel
theorem dX3_pass_254 : decode cX3_pass 254 = .ok (.goto (-171), 3) := by decide +kernel
theorem dX3_pass_257 : decode cX3_pass 257 = .ok (.aload_n 0, 1) := by decide +kernel
theorem dX3_pass_258 : decode cX3_pass 258 = .ok (.aload_n 1, 1) := by decide +kernel
theorem dX3_pass_259 : decode cX3_pass 259 = .ok (.putfield 22, 3) := by decide +kernel
theorem dX3_pass_262 : decode cX3_pass 262 = .ok (.aload_n 0, 1) := by decide +kernel
theorem dX3_pass_263 : decode cX3_pass 263 = .ok (.dup, 1) := by decide +kernel
theorem dX3_pass_264 : decode cX3_pass 264 = .ok (.getfield 39, 3) := by decide +kernel
theorem dX3_pass_267 : decode cX3_pass 267 = .ok (.iconst 1, 1) := by decide +kernel
theorem dX3_pass_268 : decode cX3_pass 268 = .ok (.iadd, 1) := by decide +kernel
theorem dX3_pass_269 : decode cX3_pass 269 = .ok (.putfield 39, 3) := by decide +kernel
theorem dX3_pass_272 : decode cX3_pass 272 = .ok (.return_, 1) := by decide +kernel
set_option maxRecDepth 20000 in
theorem ggX3_behind_X3_pass : GoodIn wsX3_behind wsX3_pass := goodIn_r _ [5, 6, 7, 8, 9, 10, 11, 12, 13, 14, 15, 16, 17, 4, 18, 19, 20, 21, 22, 23, 24, 25, 26, 27, 28, 29] (by decide +kernel) (by decide +kernel)
set_option maxRecDepth 20000 in
theorem gX3_behind_X3_pass : GoodIn wsX3_behind (wsV RX3 53 RX3 yX3_pass wsX3_pass) := goodIn_app (goodIn_of _ (by decide +kernel)) ggX3_behind_X3_pass
theorem dX3_behind_0 : decode cX3_behind 0 = .ok (.iconst 0, 1) := by decide +kernel
theorem dX3_behind_1 : decode cX3_behind 1 = .ok (.istore_n 2, 1) := by decide +kernel
theorem dX3_behind_2 : decode cX3_behind 2 = .ok (.iload_n 2, 1) := by decide +kernel
theorem dX3_behind_3 : decode cX3_behind 3 = .ok (.iload_n 1, 1) := by decide +kernel
theorem dX3_behind_4 : decode cX3_behind 4 = .ok (.if_icmp .ge 13, 3) := by decide +kernel
theorem dX3_behind_7 : decode cX3_behind 7 = .ok (.aload_n 0, 1) := by decide +kernel
theorem dX3_behind_8 : decode cX3_behind 8 = .ok (.invokevirtual 53, 3) := by decide +kernel
theorem dX3_behind_11 : decode cX3_behind 11 = .ok (.iinc 2 1, 3) := by decide +kernel
theorem dX3_behind_14 : decode cX3_behind 14 = .ok (.goto (-12), 3) := by decide +kernel
theorem dX3_behind_17 : decode cX3_behind 17 = .ok (.aload_n 0, 1) := by decide +kernel
theorem dX3_behind_18 : decode cX3_behind 18 = .ok (.areturn, 1) := by decide +kernel
theorem dX3_valleys_0 : decode cX3_valleys 0 = .ok (.iconst 0, 1) := by decide +kernel
theorem dX3_valleys_1 : decode cX3_valleys 1 = .ok (.istore_n 2, 1) := by decide +kernel
theorem dX3_valleys_2 : decode cX3_valleys 2 = .ok (.aload_n 0, 1) := by decide +kernel
theorem dX3_valleys_3 : decode cX3_valleys 3 = .ok (.getfield 22, 3) := by decide +kernel
theorem dX3_valleys_6 : decode cX3_valleys 6 = .ok (.iload_n 1, 1) := by decide +kernel
theorem dX3_valleys_7 : decode cX3_valleys 7 = .ok (.aaload, 1) := by decide +kernel
theorem dX3_valleys_8 : decode cX3_valleys 8 = .ok (.astore_n 3, 1) := by decide +kernel
theorem dX3_valleys_9 : decode cX3_valleys 9 = .ok (.aload_n 3, 1) := by decide +kernel
theorem dX3_valleys_10 : decode cX3_valleys 10 = .ok (.arraylength, 1) := by decide +kernel
theorem dX3_valleys_11 : decode cX3_valleys 11 = .ok (.istore 4, 2) := by decide +kernel
theorem dX3_valleys_13 : decode cX3_valleys 13 = .ok (.iconst 0, 1) := by decide +kernel
theorem dX3_valleys_14 : decode cX3_valleys 14 = .ok (.istore 5, 2) := by decide +kernel
theorem dX3_valleys_16 : decode cX3_valleys 16 = .ok (.iload 5, 2) := by decide +kernel
theorem dX3_valleys_18 : decode cX3_valleys 18 = .ok (.iload 4, 2) := by decide +kernel
theorem dX3_valleys_20 : decode cX3_valleys 20 = .ok (.if_icmp .ge 28, 3) := by decide +kernel
theorem dX3_valleys_23 : decode cX3_valleys 23 = .ok (.aload_n 3, 1) := by decide +kernel
theorem dX3_valleys_24 : decode cX3_valleys 24 = .ok (.iload 5, 2) := by decide +kernel
theorem dX3_valleys_26 : decode cX3_valleys 26 = .ok (.baload, 1) := by decide +kernel
theorem dX3_valleys_27 : decode cX3_valleys 27 = .ok (.istore 6, 2) := by decide +kernel
theorem dX3_valleys_29 : decode cX3_valleys 29 = .ok (.iload_n 2, 1) := by decide +kernel
theorem dX3_valleys_30 : decode cX3_valleys 30 = .ok (.iload 6, 2) := by decide +kernel
theorem dX3_valleys_32 : decode cX3_valleys 32 = .ok (.ifCond .eq 7, 3) := by decide +kernel
theorem dX3_valleys_35 : decode cX3_valleys 35 = .ok (.iconst 1, 1) := by decide +kernel
theorem dX3_valleys_36 : decode cX3_valleys 36 = .ok (.goto 4, 3) := by decide +kernel
theorem dX3_valleys_39 : decode cX3_valleys 39 = .ok (.iconst 0, 1) := by decide +kernel
theorem dX3_valleys_40 : decode cX3_valleys 40 = .ok (.iadd, 1) := by decide +kernel
theorem dX3_valleys_41 : decode cX3_valleys 41 = .ok (.istore_n 2, 1) := by decide +kernel
theorem dX3_valleys_42 : decode cX3_valleys 42 = .ok (.iinc 5 1, 3) := by decide +kernel
theorem dX3_valleys_45 : decode cX3_valleys 45 = .ok (.goto (-29), 3) := by decide +kernel
theorem dX3_valleys_48 : decode cX3_valleys 48 = .ok (.iload_n 2, 1) := by decide +kernel
theorem dX3_valleys_49 : decode cX3_valleys 49 = .ok (.ireturn, 1) := by decide +kernel
set_option maxRecDepth 20000 in
theorem ggX3_tellings_X3_valleys : GoodIn wsX3_tellings wsX3_valleys := goodIn_r _ [6, 7, 8, 9, 10, 11, 12, 13, 14, 15, 16] (by decide +kernel) (by decide +kernel)
set_option maxRecDepth 20000 in
theorem gX3_tellings_X3_valleys : GoodIn wsX3_tellings (wsV RX3 56 RX3 yX3_valleys wsX3_valleys) := goodIn_app (goodIn_of _ (by decide +kernel)) ggX3_tellings_X3_valleys
theorem dX3_tellings_0 : decode cX3_tellings 0 = .ok (.iconst 0, 1) := by decide +kernel
theorem dX3_tellings_1 : decode cX3_tellings 1 = .ok (.istore_n 1, 1) := by decide +kernel
theorem dX3_tellings_2 : decode cX3_tellings 2 = .ok (.iconst 0, 1) := by decide +kernel
theorem dX3_tellings_3 : decode cX3_tellings 3 = .ok (.istore_n 2, 1) := by decide +kernel
theorem dX3_tellings_4 : decode cX3_tellings 4 = .ok (.iload_n 2, 1) := by decide +kernel
theorem dX3_tellings_5 : decode cX3_tellings 5 = .ok (.aload_n 0, 1) := by decide +kernel
theorem dX3_tellings_6 : decode cX3_tellings 6 = .ok (.getfield 35, 3) := by decide +kernel
theorem dX3_tellings_9 : decode cX3_tellings 9 = .ok (.if_icmp .ge 17, 3) := by decide +kernel
theorem dX3_tellings_12 : decode cX3_tellings 12 = .ok (.iload_n 1, 1) := by decide +kernel
theorem dX3_tellings_13 : decode cX3_tellings 13 = .ok (.aload_n 0, 1) := by decide +kernel
theorem dX3_tellings_14 : decode cX3_tellings 14 = .ok (.iload_n 2, 1) := by decide +kernel
theorem dX3_tellings_15 : decode cX3_tellings 15 = .ok (.invokevirtual 56, 3) := by decide +kernel
theorem dX3_tellings_18 : decode cX3_tellings 18 = .ok (.iadd, 1) := by decide +kernel
theorem dX3_tellings_19 : decode cX3_tellings 19 = .ok (.istore_n 1, 1) := by decide +kernel
theorem dX3_tellings_20 : decode cX3_tellings 20 = .ok (.iinc 2 1, 3) := by decide +kernel
theorem dX3_tellings_23 : decode cX3_tellings 23 = .ok (.goto (-19), 3) := by decide +kernel
theorem dX3_tellings_26 : decode cX3_tellings 26 = .ok (.iload_n 1, 1) := by decide +kernel
theorem dX3_tellings_27 : decode cX3_tellings 27 = .ok (.ireturn, 1) := by decide +kernel
theorem dX3_beastsOf_0 : decode cX3_beastsOf 0 = .ok (.iconst 0, 1) := by decide +kernel
theorem dX3_beastsOf_1 : decode cX3_beastsOf 1 = .ok (.istore_n 2, 1) := by decide +kernel
theorem dX3_beastsOf_2 : decode cX3_beastsOf 2 = .ok (.aload_n 0, 1) := by decide +kernel
theorem dX3_beastsOf_3 : decode cX3_beastsOf 3 = .ok (.getfield 17, 3) := by decide +kernel
theorem dX3_beastsOf_6 : decode cX3_beastsOf 6 = .ok (.iload_n 1, 1) := by decide +kernel
theorem dX3_beastsOf_7 : decode cX3_beastsOf 7 = .ok (.aaload, 1) := by decide +kernel
theorem dX3_beastsOf_8 : decode cX3_beastsOf 8 = .ok (.astore_n 3, 1) := by decide +kernel
theorem dX3_beastsOf_9 : decode cX3_beastsOf 9 = .ok (.aload_n 3, 1) := by decide +kernel
theorem dX3_beastsOf_10 : decode cX3_beastsOf 10 = .ok (.arraylength, 1) := by decide +kernel
theorem dX3_beastsOf_11 : decode cX3_beastsOf 11 = .ok (.istore 4, 2) := by decide +kernel
theorem dX3_beastsOf_13 : decode cX3_beastsOf 13 = .ok (.iconst 0, 1) := by decide +kernel
theorem dX3_beastsOf_14 : decode cX3_beastsOf 14 = .ok (.istore 5, 2) := by decide +kernel
theorem dX3_beastsOf_16 : decode cX3_beastsOf 16 = .ok (.iload 5, 2) := by decide +kernel
theorem dX3_beastsOf_18 : decode cX3_beastsOf 18 = .ok (.iload 4, 2) := by decide +kernel
theorem dX3_beastsOf_20 : decode cX3_beastsOf 20 = .ok (.if_icmp .ge 28, 3) := by decide +kernel
theorem dX3_beastsOf_23 : decode cX3_beastsOf 23 = .ok (.aload_n 3, 1) := by decide +kernel
theorem dX3_beastsOf_24 : decode cX3_beastsOf 24 = .ok (.iload 5, 2) := by decide +kernel
theorem dX3_beastsOf_26 : decode cX3_beastsOf 26 = .ok (.baload, 1) := by decide +kernel
theorem dX3_beastsOf_27 : decode cX3_beastsOf 27 = .ok (.istore 6, 2) := by decide +kernel
theorem dX3_beastsOf_29 : decode cX3_beastsOf 29 = .ok (.iload_n 2, 1) := by decide +kernel
theorem dX3_beastsOf_30 : decode cX3_beastsOf 30 = .ok (.iload 6, 2) := by decide +kernel
theorem dX3_beastsOf_32 : decode cX3_beastsOf 32 = .ok (.ifCond .eq 7, 3) := by decide +kernel
theorem dX3_beastsOf_35 : decode cX3_beastsOf 35 = .ok (.iconst 1, 1) := by decide +kernel
theorem dX3_beastsOf_36 : decode cX3_beastsOf 36 = .ok (.goto 4, 3) := by decide +kernel
theorem dX3_beastsOf_39 : decode cX3_beastsOf 39 = .ok (.iconst 0, 1) := by decide +kernel
theorem dX3_beastsOf_40 : decode cX3_beastsOf 40 = .ok (.iadd, 1) := by decide +kernel
theorem dX3_beastsOf_41 : decode cX3_beastsOf 41 = .ok (.istore_n 2, 1) := by decide +kernel
theorem dX3_beastsOf_42 : decode cX3_beastsOf 42 = .ok (.iinc 5 1, 3) := by decide +kernel
theorem dX3_beastsOf_45 : decode cX3_beastsOf 45 = .ok (.goto (-29), 3) := by decide +kernel
theorem dX3_beastsOf_48 : decode cX3_beastsOf 48 = .ok (.iload_n 2, 1) := by decide +kernel
theorem dX3_beastsOf_49 : decode cX3_beastsOf 49 = .ok (.ireturn, 1) := by decide +kernel
theorem dX3_hasVariant_0 : decode cX3_hasVariant 0 = .ok (.iconst 0, 1) := by decide +kernel
theorem dX3_hasVariant_1 : decode cX3_hasVariant 1 = .ok (.istore_n 2, 1) := by decide +kernel
theorem dX3_hasVariant_2 : decode cX3_hasVariant 2 = .ok (.iload_n 2, 1) := by decide +kernel
theorem dX3_hasVariant_3 : decode cX3_hasVariant 3 = .ok (.aload_n 0, 1) := by decide +kernel
theorem dX3_hasVariant_4 : decode cX3_hasVariant 4 = .ok (.getfield 35, 3) := by decide +kernel
theorem dX3_hasVariant_7 : decode cX3_hasVariant 7 = .ok (.if_icmp .ge 23, 3) := by decide +kernel
theorem dX3_hasVariant_10 : decode cX3_hasVariant 10 = .ok (.aload_n 0, 1) := by decide +kernel
theorem dX3_hasVariant_11 : decode cX3_hasVariant 11 = .ok (.getfield 9, 3) := by decide +kernel
theorem dX3_hasVariant_14 : decode cX3_hasVariant 14 = .ok (.iload_n 2, 1) := by decide +kernel
theorem dX3_hasVariant_15 : decode cX3_hasVariant 15 = .ok (.aaload, 1) := by decide +kernel
theorem dX3_hasVariant_16 : decode cX3_hasVariant 16 = .ok (.iconst 2, 1) := by decide +kernel
theorem dX3_hasVariant_17 : decode cX3_hasVariant 17 = .ok (.iaload, 1) := by decide +kernel
theorem dX3_hasVariant_18 : decode cX3_hasVariant 18 = .ok (.iload_n 1, 1) := by decide +kernel
theorem dX3_hasVariant_19 : decode cX3_hasVariant 19 = .ok (.if_icmp .ne 5, 3) := by decide +kernel
theorem dX3_hasVariant_22 : decode cX3_hasVariant 22 = .ok (.iconst 1, 1) := by decide +kernel
theorem dX3_hasVariant_23 : decode cX3_hasVariant 23 = .ok (.ireturn, 1) := by decide +kernel
theorem dX3_hasVariant_24 : decode cX3_hasVariant 24 = .ok (.iinc 2 1, 3) := by decide +kernel
theorem dX3_hasVariant_27 : decode cX3_hasVariant 27 = .ok (.goto (-25), 3) := by decide +kernel
theorem dX3_hasVariant_30 : decode cX3_hasVariant 30 = .ok (.iconst 0, 1) := by decide +kernel
theorem dX3_hasVariant_31 : decode cX3_hasVariant 31 = .ok (.ireturn, 1) := by decide +kernel
set_option maxRecDepth 20000 in
theorem ggX3_loved_X3_valleys : GoodIn wsX3_loved wsX3_valleys := goodIn_r _ [8, 9, 10, 11, 12, 13, 14, 15, 16, 17, 18] (by decide +kernel) (by decide +kernel)
set_option maxRecDepth 20000 in
theorem gX3_loved_X3_valleys : GoodIn wsX3_loved (wsV RX3 56 RX3 yX3_valleys wsX3_valleys) := goodIn_app (goodIn_of _ (by decide +kernel)) ggX3_loved_X3_valleys
theorem dX3_loved_0 : decode cX3_loved 0 = .ok (.iconst 0, 1) := by decide +kernel
theorem dX3_loved_1 : decode cX3_loved 1 = .ok (.istore_n 2, 1) := by decide +kernel
theorem dX3_loved_2 : decode cX3_loved 2 = .ok (.iconst 0, 1) := by decide +kernel
theorem dX3_loved_3 : decode cX3_loved 3 = .ok (.istore_n 3, 1) := by decide +kernel
theorem dX3_loved_4 : decode cX3_loved 4 = .ok (.iload_n 3, 1) := by decide +kernel
theorem dX3_loved_5 : decode cX3_loved 5 = .ok (.aload_n 0, 1) := by decide +kernel
theorem dX3_loved_6 : decode cX3_loved 6 = .ok (.getfield 35, 3) := by decide +kernel
theorem dX3_loved_9 : decode cX3_loved 9 = .ok (.if_icmp .ge 65, 3) := by decide +kernel
theorem dX3_loved_12 : decode cX3_loved 12 = .ok (.iload_n 2, 1) := by decide +kernel
theorem dX3_loved_13 : decode cX3_loved 13 = .ok (.iload_n 1, 1) := by decide +kernel
theorem dX3_loved_14 : decode cX3_loved 14 = .ok (.bipush 10, 2) := by decide +kernel
theorem dX3_loved_16 : decode cX3_loved 16 = .ok (.if_icmp .ge 27, 3) := by decide +kernel
theorem dX3_loved_19 : decode cX3_loved 19 = .ok (.aload_n 0, 1) := by decide +kernel
theorem dX3_loved_20 : decode cX3_loved 20 = .ok (.getfield 9, 3) := by decide +kernel
theorem dX3_loved_23 : decode cX3_loved 23 = .ok (.iload_n 3, 1) := by decide +kernel
theorem dX3_loved_24 : decode cX3_loved 24 = .ok (.aaload, 1) := by decide +kernel
theorem dX3_loved_25 : decode cX3_loved 25 = .ok (.iconst 0, 1) := by decide +kernel
theorem dX3_loved_26 : decode cX3_loved 26 = .ok (.iaload, 1) := by decide +kernel
theorem dX3_loved_27 : decode cX3_loved 27 = .ok (.iload_n 1, 1) := by decide +kernel
theorem dX3_loved_28 : decode cX3_loved 28 = .ok (.if_icmp .ne 11, 3) := by decide +kernel
theorem dX3_loved_31 : decode cX3_loved 31 = .ok (.aload_n 0, 1) := by decide +kernel
theorem dX3_loved_32 : decode cX3_loved 32 = .ok (.iload_n 3, 1) := by decide +kernel
theorem dX3_loved_33 : decode cX3_loved 33 = .ok (.invokevirtual 56, 3) := by decide +kernel
theorem dX3_loved_36 : decode cX3_loved 36 = .ok (.goto 30, 3) := by decide +kernel
theorem dX3_loved_39 : decode cX3_loved 39 = .ok (.iconst 0, 1) := by decide +kernel
theorem dX3_loved_40 : decode cX3_loved 40 = .ok (.goto 26, 3) := by decide +kernel
theorem dX3_loved_43 : decode cX3_loved 43 = .ok (.aload_n 0, 1) := by decide +kernel
theorem dX3_loved_44 : decode cX3_loved 44 = .ok (.getfield 17, 3) := by decide +kernel
theorem dX3_loved_47 : decode cX3_loved 47 = .ok (.iload_n 3, 1) := by decide +kernel
theorem dX3_loved_48 : decode cX3_loved 48 = .ok (.aaload, 1) := by decide +kernel
theorem dX3_loved_49 : decode cX3_loved 49 = .ok (.iload_n 1, 1) := by decide +kernel
theorem dX3_loved_50 : decode cX3_loved 50 = .ok (.bipush 10, 2) := by decide +kernel
theorem dX3_loved_52 : decode cX3_loved 52 = .ok (.isub, 1) := by decide +kernel
theorem dX3_loved_53 : decode cX3_loved 53 = .ok (.baload, 1) := by decide +kernel
theorem dX3_loved_54 : decode cX3_loved 54 = .ok (.ifCond .eq 11, 3) := by decide +kernel
theorem dX3_loved_57 : decode cX3_loved 57 = .ok (.aload_n 0, 1) := by decide +kernel
theorem dX3_loved_58 : decode cX3_loved 58 = .ok (.iload_n 3, 1) := by decide +kernel
theorem dX3_loved_59 : decode cX3_loved 59 = .ok (.invokevirtual 56, 3) := by decide +kernel
theorem dX3_loved_62 : decode cX3_loved 62 = .ok (.goto 4, 3) := by decide +kernel
theorem dX3_loved_65 : decode cX3_loved 65 = .ok (.iconst 0, 1) := by decide +kernel
theorem dX3_loved_66 : decode cX3_loved 66 = .ok (.iadd, 1) := by decide +kernel
theorem dX3_loved_67 : decode cX3_loved 67 = .ok (.istore_n 2, 1) := by decide +kernel
theorem dX3_loved_68 : decode cX3_loved 68 = .ok (.iinc 3 1, 3) := by decide +kernel
theorem dX3_loved_71 : decode cX3_loved 71 = .ok (.goto (-67), 3) := by decide +kernel
theorem dX3_loved_74 : decode cX3_loved 74 = .ok (.iload_n 2, 1) := by decide +kernel
theorem dX3_loved_75 : decode cX3_loved 75 = .ok (.ireturn, 1) := by decide +kernel
set_option maxRecDepth 20000 in
theorem ggX3_favourite_X3_loved : GoodIn wsX3_favourite wsX3_loved := goodIn_r _ [5, 6, 7, 8, 9, 10, 11, 4, 12, 13, 14, 15, 16, 17, 18, 19, 20, 21, 22] (by decide +kernel) (by decide +kernel)
set_option maxRecDepth 20000 in
theorem gX3_favourite_X3_loved : GoodIn wsX3_favourite (wsV RX3 60 RX3 yX3_loved wsX3_loved) := goodIn_app (goodIn_of _ (by decide +kernel)) ggX3_favourite_X3_loved
theorem dX3_favourite_0 : decode cX3_favourite 0 = .ok (.iconst (-1), 1) := by decide +kernel
theorem dX3_favourite_1 : decode cX3_favourite 1 = .ok (.istore_n 3, 1) := by decide +kernel
theorem dX3_favourite_2 : decode cX3_favourite 2 = .ok (.iload_n 2, 1) := by decide +kernel
theorem dX3_favourite_3 : decode cX3_favourite 3 = .ok (.iconst 1, 1) := by decide +kernel
theorem dX3_favourite_4 : decode cX3_favourite 4 = .ok (.isub, 1) := by decide +kernel
theorem dX3_favourite_5 : decode cX3_favourite 5 = .ok (.istore 4, 2) := by decide +kernel
theorem dX3_favourite_7 : decode cX3_favourite 7 = .ok (.iload 4, 2) := by decide +kernel
theorem dX3_favourite_9 : decode cX3_favourite 9 = .ok (.iload_n 1, 1) := by decide +kernel
theorem dX3_favourite_10 : decode cX3_favourite 10 = .ok (.if_icmp .lt 39, 3) := by decide +kernel
theorem dX3_favourite_13 : decode cX3_favourite 13 = .ok (.aload_n 0, 1) := by decide +kernel
theorem dX3_favourite_14 : decode cX3_favourite 14 = .ok (.iload 4, 2) := by decide +kernel
theorem dX3_favourite_16 : decode cX3_favourite 16 = .ok (.invokevirtual 60, 3) := by decide +kernel
theorem dX3_favourite_19 : decode cX3_favourite 19 = .ok (.ifCond .le 24, 3) := by decide +kernel
theorem dX3_favourite_22 : decode cX3_favourite 22 = .ok (.iload_n 3, 1) := by decide +kernel
theorem dX3_favourite_23 : decode cX3_favourite 23 = .ok (.ifCond .lt 17, 3) := by decide +kernel
theorem dX3_favourite_26 : decode cX3_favourite 26 = .ok (.aload_n 0, 1) := by decide +kernel
theorem dX3_favourite_27 : decode cX3_favourite 27 = .ok (.iload 4, 2) := by decide +kernel
theorem dX3_favourite_29 : decode cX3_favourite 29 = .ok (.invokevirtual 60, 3) := by decide +kernel
theorem dX3_favourite_32 : decode cX3_favourite 32 = .ok (.aload_n 0, 1) := by decide +kernel
theorem dX3_favourite_33 : decode cX3_favourite 33 = .ok (.iload_n 3, 1) := by decide +kernel
theorem dX3_favourite_34 : decode cX3_favourite 34 = .ok (.invokevirtual 60, 3) := by decide +kernel
theorem dX3_favourite_37 : decode cX3_favourite 37 = .ok (.if_icmp .lt 6, 3) := by decide +kernel
theorem dX3_favourite_40 : decode cX3_favourite 40 = .ok (.iload 4, 2) := by decide +kernel
theorem dX3_favourite_42 : decode cX3_favourite 42 = .ok (.istore_n 3, 1) := by decide +kernel
theorem dX3_favourite_43 : decode cX3_favourite 43 = .ok (.iinc 4 (-1), 3) := by decide +kernel
theorem dX3_favourite_46 : decode cX3_favourite 46 = .ok (.goto (-39), 3) := by decide +kernel
theorem dX3_favourite_49 : decode cX3_favourite 49 = .ok (.iload_n 3, 1) := by decide +kernel
theorem dX3_favourite_50 : decode cX3_favourite 50 = .ok (.ifCond .ge 7, 3) := by decide +kernel
theorem dX3_favourite_53 : decode cX3_favourite 53 = .ok (.iconst (-1), 1) := by decide +kernel
theorem dX3_favourite_54 : decode cX3_favourite 54 = .ok (.goto 6, 3) := by decide +kernel
theorem dX3_favourite_57 : decode cX3_favourite 57 = .ok (.iload_n 3, 1) := by decide +kernel
theorem dX3_favourite_58 : decode cX3_favourite 58 = .ok (.iload_n 1, 1) := by decide +kernel
theorem dX3_favourite_59 : decode cX3_favourite 59 = .ok (.isub, 1) := by decide +kernel
theorem dX3_favourite_60 : decode cX3_favourite 60 = .ok (.ireturn, 1) := by decide +kernel
