set_option maxRecDepth 20000 in
theorem ggL_law_X4_init : GoodIn wsL_law wsX4_init := goodIn_r _ [38, 39, 40, 41, 42, 43, 44, 45, 46, 47, 48, 49, 50, 51, 52, 53, 54, 55, 56, 57, 58, 59, 60, 61, 62, 63, 64, 65, 66, 67, 68, 69, 70, 71, 72, 73, 74, 75, 76, 77, 78, 79, 420, 421, 422, 423, 424, 425, 426, 427, 428, 429, 416, 417, 418, 419, 430, 431, 432, 433, 434, 435, 436, 437] (by decide +kernel) (by decide +kernel)
set_option maxRecDepth 20000 in
theorem gL_law_X4_init : GoodIn wsL_law (wsX4_init) := ggL_law_X4_init
set_option maxRecDepth 20000 in
theorem ggL_law_L_take : GoodIn wsL_law wsL_take := goodIn_r _ [410, 411] (by decide +kernel) (by decide +kernel)
set_option maxRecDepth 20000 in
theorem gL_law_L_take : GoodIn wsL_law (va_wsS RL 167 yL_take wsL_take) := goodIn_app (goodIn_of _ (by decide +kernel)) ggL_law_L_take
set_option maxRecDepth 20000 in
theorem ggL_law_L_part : GoodIn wsL_law wsL_part := goodIn_r _ [414, 415] (by decide +kernel) (by decide +kernel)
set_option maxRecDepth 20000 in
theorem gL_law_L_part : GoodIn wsL_law (va_wsS RL 171 yL_part wsL_part) := goodIn_app (goodIn_of _ (by decide +kernel)) ggL_law_L_part
set_option maxRecDepth 20000 in
theorem ggL_law_X4_dip : GoodIn wsL_law wsX4_dip := goodIn_r _ [293, 50, 45, 182, 96, 97, 2, 98, 294, 129, 130, 138, 139, 140, 49, 141, 142, 72, 143, 144, 145, 146, 147, 148, 149, 44, 150, 60, 63, 64, 65, 66, 61, 62, 151, 152, 153, 154, 155, 156, 157, 158, 159, 160, 161, 162, 163, 164, 165, 166, 167, 168, 169, 170, 171, 172, 173, 174, 175, 176, 177, 416, 417, 418, 419, 420, 421, 422, 423, 424, 425, 426, 427, 428, 429, 430, 431] (by decide +kernel) (by decide +kernel)
set_option maxRecDepth 20000 in
theorem gL_law_X4_dip : GoodIn wsL_law (wsV RL 37 RX4 yX4_dip wsX4_dip) := goodIn_app (goodIn_of _ (by decide +kernel)) ggL_law_X4_dip
set_option maxRecDepth 20000 in
theorem ggL_law_X4_add : GoodIn wsL_law wsX4_add := goodIn_r _ [298, 45, 137, 50, 294, 129, 2, 130, 96, 97, 98, 138, 139, 140, 49, 141, 142, 72, 143, 144, 145, 146, 147, 148, 149, 44, 150, 60, 63, 64, 65, 66, 61, 62, 151, 152, 153, 154, 155, 156, 157, 170, 171, 172, 173, 174, 175, 176, 177, 416, 417, 418, 419, 420, 421, 422, 423, 424, 425, 426, 427, 428, 429, 430, 431] (by decide +kernel) (by decide +kernel)
set_option maxRecDepth 20000 in
theorem gL_law_X4_add : GoodIn wsL_law (wsV RL 41 RX4 yX4_add wsX4_add) := goodIn_app (goodIn_of _ (by decide +kernel)) ggL_law_X4_add
set_option maxRecDepth 20000 in
theorem ggL_law_X4_cut : GoodIn wsL_law wsX4_cut := goodIn_r _ [399, 45, 137, 50, 138, 139, 140, 49, 141, 142, 72, 143, 144, 145, 146, 147, 148, 149, 44, 150, 60, 63, 64, 65, 66, 61, 62, 151, 152, 153, 154, 155, 156, 157, 358, 321, 322, 323, 317, 318, 247, 319, 166, 167, 168, 169, 416, 417, 418, 419, 420, 421, 422, 423, 424, 425, 426, 427, 428, 429, 430, 431] (by decide +kernel) (by decide +kernel)
set_option maxRecDepth 20000 in
theorem gL_law_X4_cut : GoodIn wsL_law (wsV RL 77 RX4 yX4_cut wsX4_cut) := goodIn_app (goodIn_of _ (by decide +kernel)) ggL_law_X4_cut
set_option maxRecDepth 20000 in
theorem ggL_law_X4_pour : GoodIn wsL_law wsX4_pour := goodIn_r _ [352, 45, 257, 50, 258, 259, 260, 44, 261, 151, 96, 97, 2, 98, 294, 129, 130, 138, 139, 140, 49, 141, 142, 72, 143, 144, 145, 146, 147, 148, 149, 150, 60, 63, 64, 65, 66, 61, 62, 152, 153, 154, 155, 156, 157, 353, 175, 176, 177, 416, 417, 418, 419, 420, 421, 422, 423, 424, 425, 426, 427, 428, 429, 430, 431] (by decide +kernel) (by decide +kernel)
set_option maxRecDepth 20000 in
theorem gL_law_X4_pour : GoodIn wsL_law (wsV RL 47 RX4 yX4_pour wsX4_pour) := goodIn_app (goodIn_of _ (by decide +kernel)) ggL_law_X4_pour
set_option maxRecDepth 20000 in
theorem ggL_law_X4_thin : GoodIn wsL_law wsX4_thin := goodIn_r _ [357, 45, 50, 258, 259, 260, 44, 261, 151, 96, 97, 2, 98, 138, 139, 140, 49, 141, 142, 72, 143, 144, 145, 146, 147, 148, 149, 150, 60, 63, 64, 65, 66, 61, 62, 152, 153, 154, 155, 156, 157, 358, 321, 322, 323, 317, 318, 247, 319, 166, 167, 168, 169, 416, 417, 418, 419, 420, 421, 422, 423, 424, 425, 426, 427, 428, 429, 430, 431] (by decide +kernel) (by decide +kernel)
set_option maxRecDepth 20000 in
theorem gL_law_X4_thin : GoodIn wsL_law (wsV RL 50 RX4 yX4_thin wsX4_thin) := goodIn_app (goodIn_of _ (by decide +kernel)) ggL_law_X4_thin
set_option maxRecDepth 20000 in
theorem ggL_law_X4_set : GoodIn wsL_law wsX4_set := goodIn_r _ [287, 288, 289, 50, 45, 183, 96, 97, 2, 98, 138, 139, 140, 49, 141, 142, 72, 143, 144, 145, 146, 147, 148, 149, 44, 150, 60, 63, 64, 65, 66, 61, 62, 151, 152, 153, 154, 155, 156, 157, 416, 417, 418, 419, 420, 421, 422, 423, 424, 425, 426, 427, 428, 429, 430, 431] (by decide +kernel) (by decide +kernel)
set_option maxRecDepth 20000 in
theorem gL_law_X4_set : GoodIn wsL_law (wsV RL 33 RX4 yX4_set wsX4_set) := goodIn_app (goodIn_of _ (by decide +kernel)) ggL_law_X4_set
set_option maxRecDepth 20000 in
theorem ggL_law_X4_go : GoodIn wsL_law wsX4_go := goodIn_r _ [302, 45, 184, 303, 50, 137, 96, 97, 2, 98, 138, 139, 140, 49, 141, 142, 72, 143, 144, 145, 146, 147, 148, 149, 44, 150, 60, 63, 64, 65, 66, 61, 62, 151, 152, 153, 154, 155, 156, 157, 304, 305, 306, 307, 308, 309, 310, 311, 312, 313, 314, 315, 316, 317, 318, 247, 319, 320, 321, 322, 323, 166, 167, 168, 169, 324, 325, 326, 327, 195, 196, 197, 198, 328, 329, 330, 331, 332, 333, 334, 335, 336, 337, 338, 339, 340, 341, 342, 343, 344, 192, 193, 194, 345, 346, 347, 348, 162, 163, 164, 165, 416, 417, 418, 419, 420, 421, 422, 423, 424, 425, 426, 427, 428, 429, 430, 431] (by decide +kernel) (by decide +kernel)
set_option maxRecDepth 20000 in
theorem gL_law_X4_go : GoodIn wsL_law (wsV RL 44 RX4 yX4_go wsX4_go) := goodIn_app (goodIn_of _ (by decide +kernel)) ggL_law_X4_go
set_option maxRecDepth 20000 in
theorem ggL_law_X4_count : GoodIn wsL_law wsX4_count := goodIn_r _ [181, 45, 182, 183, 137, 184, 185, 186, 187, 188, 189, 50, 190, 54, 87, 96, 97, 2, 98, 191, 192, 193, 44, 194, 151, 195, 196, 197, 198, 60, 61, 199, 200, 201, 202, 203, 204, 205, 206, 207, 208, 209, 210, 211, 212, 213, 214, 215, 216, 217, 218, 219, 220, 221, 222, 223, 224, 225, 226, 227, 228, 229, 230, 231, 232, 233, 234, 235, 236, 237, 238, 239, 240, 241, 242, 243, 244, 245, 246, 247, 248, 249, 250, 251, 252, 416, 417, 418, 419, 420, 421, 422, 423, 424, 425, 426, 427, 428, 429, 430, 431, 432, 433, 434, 435, 436, 437] (by decide +kernel) (by decide +kernel)
set_option maxRecDepth 20000 in
theorem gL_law_X4_count : GoodIn wsL_law (wsV RL 13 RX4 yX4_count wsX4_count) := goodIn_app (goodIn_of _ (by decide +kernel)) ggL_law_X4_count
set_option maxRecDepth 20000 in
theorem ggL_law_X4_undo : GoodIn wsL_law wsX4_undo := goodIn_r _ [403, 50, 190, 45, 404, 405, 406, 49, 407, 142, 72, 147, 148, 149, 44, 150, 60, 63, 64, 65, 66, 61, 62, 151, 152, 153, 154, 155, 156, 157, 416, 417, 418, 419, 430, 431, 420, 421, 422, 423, 424, 425, 426, 427, 428, 429] (by decide +kernel) (by decide +kernel)
set_option maxRecDepth 20000 in
theorem gL_law_X4_undo : GoodIn wsL_law (wsV RL 156 RX4 yX4_undo wsX4_undo) := goodIn_app (goodIn_of _ (by decide +kernel)) ggL_law_X4_undo
theorem dL_law_0 : decode cL_law 0 = .ok (.invokestatic 160, 3) := by decide +kernel
theorem dL_law_3 : decode cL_law 3 = .ok (.ifCond .eq 9, 3) := by decide +kernel
theorem dL_law_6 : decode cL_law 6 = .ok (.invokestatic 164, 3) := by decide +kernel
theorem dL_law_9 : decode cL_law 9 = .ok (.ifCond .ne 5, 3) := by decide +kernel
theorem dL_law_12 : decode cL_law 12 = .ok (.iconst 0, 1) := by decide +kernel
theorem dL_law_13 : decode cL_law 13 = .ok (.ireturn, 1) := by decide +kernel
theorem dL_law_14 : decode cL_law 14 = .ok (.new 14, 3) := by decide +kernel
theorem dL_law_17 : decode cL_law 17 = .ok (.dup, 1) := by decide +kernel
theorem dL_law_18 : decode cL_law 18 = .ok (.invokespecial 90, 3) := by decide +kernel
theorem dL_law_21 : decode cL_law 21 = .ok (.astore_n 1, 1) := by decide +kernel
theorem dL_law_22 : decode cL_law 22 = .ok (.aload_n 1, 1) := by decide +kernel
theorem dL_law_23 : decode cL_law 23 = .ok (.bipush 24, 2) := by decide +kernel
theorem dL_law_25 : decode cL_law 25 = .ok (.aload_n 0, 1) := by decide +kernel
theorem dL_law_26 : decode cL_law 26 = .ok (.iconst 0, 1) := by decide +kernel
theorem dL_law_27 : decode cL_law 27 = .ok (.invokestatic 167, 3) := by decide +kernel
theorem dL_law_30 : decode cL_law 30 = .ok (.sipush 500, 3) := by decide +kernel
theorem dL_law_33 : decode cL_law 33 = .ok (.invokestatic 171, 3) := by decide +kernel
theorem dL_law_36 : decode cL_law 36 = .ok (.aload_n 0, 1) := by decide +kernel
theorem dL_law_37 : decode cL_law 37 = .ok (.iconst 1, 1) := by decide +kernel
theorem dL_law_38 : decode cL_law 38 = .ok (.invokestatic 167, 3) := by decide +kernel
theorem dL_law_41 : decode cL_law 41 = .ok (.sipush 196, 3) := by decide +kernel
theorem dL_law_44 : decode cL_law 44 = .ok (.invokestatic 171, 3) := by decide +kernel
theorem dL_law_47 : decode cL_law 47 = .ok (.invokevirtual 37, 3) := by decide +kernel
theorem dL_law_50 : decode cL_law 50 = .ok (.ifCond .lt 58, 3) := by decide +kernel
theorem dL_law_53 : decode cL_law 53 = .ok (.aload_n 1, 1) := by decide +kernel
theorem dL_law_54 : decode cL_law 54 = .ok (.iconst 1, 1) := by decide +kernel
theorem dL_law_55 : decode cL_law 55 = .ok (.invokevirtual 41, 3) := by decide +kernel
theorem dL_law_58 : decode cL_law 58 = .ok (.bipush (-3), 2) := by decide +kernel
theorem dL_law_60 : decode cL_law 60 = .ok (.if_icmp .ne 48, 3) := by decide +kernel
theorem dL_law_63 : decode cL_law 63 = .ok (.aload_n 1, 1) := by decide +kernel
theorem dL_law_64 : decode cL_law 64 = .ok (.sipush 5001, 3) := by decide +kernel
theorem dL_law_67 : decode cL_law 67 = .ok (.invokevirtual 41, 3) := by decide +kernel
theorem dL_law_70 : decode cL_law 70 = .ok (.iconst (-1), 1) := by decide +kernel
theorem dL_law_71 : decode cL_law 71 = .ok (.if_icmp .ne 37, 3) := by decide +kernel
theorem dL_law_74 : decode cL_law 74 = .ok (.aload_n 1, 1) := by decide +kernel
theorem dL_law_75 : decode cL_law 75 = .ok (.invokestatic 152, 3) := by decide +kernel
theorem dL_law_78 : decode cL_law 78 = .ok (.ifCond .eq 30, 3) := by decide +kernel
theorem dL_law_81 : decode cL_law 81 = .ok (.aload_n 1, 1) := by decide +kernel
theorem dL_law_82 : decode cL_law 82 = .ok (.invokevirtual 77, 3) := by decide +kernel
theorem dL_law_85 : decode cL_law 85 = .ok (.ifCond .lt 23, 3) := by decide +kernel
theorem dL_law_88 : decode cL_law 88 = .ok (.aload_n 1, 1) := by decide +kernel
theorem dL_law_89 : decode cL_law 89 = .ok (.aload_n 0, 1) := by decide +kernel
theorem dL_law_90 : decode cL_law 90 = .ok (.iconst 2, 1) := by decide +kernel
theorem dL_law_91 : decode cL_law 91 = .ok (.invokestatic 167, 3) := by decide +kernel
theorem dL_law_94 : decode cL_law 94 = .ok (.sipush 5001, 3) := by decide +kernel
theorem dL_law_97 : decode cL_law 97 = .ok (.invokestatic 171, 3) := by decide +kernel
theorem dL_law_100 : decode cL_law 100 = .ok (.invokevirtual 41, 3) := by decide +kernel
theorem dL_law_103 : decode cL_law 103 = .ok (.bipush 24, 2) := by decide +kernel
theorem dL_law_105 : decode cL_law 105 = .ok (.if_icmp .eq 5, 3) := by decide +kernel
theorem dL_law_108 : decode cL_law 108 = .ok (.iconst 0, 1) := by decide +kernel
theorem dL_law_109 : decode cL_law 109 = .ok (.ireturn, 1) := by decide +kernel
theorem dL_law_110 : decode cL_law 110 = .ok (.bipush 32, 2) := by decide +kernel
theorem dL_law_112 : decode cL_law 112 = .ok (.newarray .long, 2) := by decide +kernel
theorem dL_law_114 : decode cL_law 114 = .ok (.astore_n 2, 1) := by decide +kernel
theorem dL_law_115 : decode cL_law 115 = .ok (.iconst 0, 1) := by decide +kernel
theorem dL_law_116 : decode cL_law 116 = .ok (.istore_n 3, 1) := by decide +kernel
theorem dL_law_117 : decode cL_law 117 = .ok (.iconst 0, 1) := by decide +kernel
theorem dL_law_118 : decode cL_law 118 = .ok (.istore 4, 2) := by decide +kernel
theorem dL_law_120 : decode cL_law 120 = .ok (.iload 4, 2) := by decide +kernel
theorem dL_law_122 : decode cL_law 122 = .ok (.bipush 24, 2) := by decide +kernel
theorem dL_law_124 : decode cL_law 124 = .ok (.if_icmp .ge 322, 3) := by decide +kernel
theorem dL_law_127 : decode cL_law 127 = .ok (.aload_n 0, 1) := by decide +kernel
theorem dL_law_128 : decode cL_law 128 = .ok (.bipush 10, 2) := by decide +kernel
theorem dL_law_130 : decode cL_law 130 = .ok (.iload 4, 2) := by decide +kernel
theorem dL_law_132 : decode cL_law 132 = .ok (.iadd, 1) := by decide +kernel
theorem dL_law_133 : decode cL_law 133 = .ok (.invokestatic 167, 3) := by decide +kernel
theorem dL_law_136 : decode cL_law 136 = .ok (.istore 5, 2) := by decide +kernel
theorem dL_law_138 : decode cL_law 138 = .ok (.iload 5, 2) := by decide +kernel
theorem dL_law_140 : decode cL_law 140 = .ok (.iconst 3, 1) := by decide +kernel
theorem dL_law_141 : decode cL_law 141 = .ok (.ishr, 1) := by decide +kernel
theorem dL_law_142 : decode cL_law 142 = .ok (.bipush 24, 2) := by decide +kernel
theorem dL_law_144 : decode cL_law 144 = .ok (.invokestatic 171, 3) := by decide +kernel
theorem dL_law_147 : decode cL_law 147 = .ok (.istore 6, 2) := by decide +kernel
theorem dL_law_149 : decode cL_law 149 = .ok (.iload 5, 2) := by decide +kernel
theorem dL_law_151 : decode cL_law 151 = .ok (.bipush 9, 2) := by decide +kernel
theorem dL_law_153 : decode cL_law 153 = .ok (.invokestatic 171, 3) := by decide +kernel
theorem dL_law_156 : decode cL_law 156 = .ok (.istore 7, 2) := by decide +kernel
theorem dL_law_158 : decode cL_law 158 = .ok (.aload_n 2, 1) := by decide +kernel
theorem dL_law_159 : decode cL_law 159 = .ok (.iload_n 3, 1) := by decide +kernel
theorem dL_law_160 : decode cL_law 160 = .ok (.aload_n 1, 1) := by decide +kernel
theorem dL_law_161 : decode cL_law 161 = .ok (.invokestatic 29, 3) := by decide +kernel
theorem dL_law_164 : decode cL_law 164 = .ok (.lastore, 1) := by decide +kernel
theorem dL_law_165 : decode cL_law 165 = .ok (.iload 7, 2) := by decide +kernel
theorem dL_law_167 : decode cL_law 167 = .ok (.ifCond .ne 24, 3) := by decide +kernel
theorem dL_law_170 : decode cL_law 170 = .ok (.aload_n 1, 1) := by decide +kernel
theorem dL_law_171 : decode cL_law 171 = .ok (.iload 6, 2) := by decide +kernel
theorem dL_law_173 : decode cL_law 173 = .ok (.iconst 1, 1) := by decide +kernel
theorem dL_law_174 : decode cL_law 174 = .ok (.iload 5, 2) := by decide +kernel
theorem dL_law_176 : decode cL_law 176 = .ok (.iconst 4, 1) := by decide +kernel
theorem dL_law_177 : decode cL_law 177 = .ok (.ishr, 1) := by decide +kernel
theorem dL_law_178 : decode cL_law 178 = .ok (.sipush 5000, 3) := by decide +kernel
theorem dL_law_181 : decode cL_law 181 = .ok (.invokestatic 171, 3) := by decide +kernel
theorem dL_law_184 : decode cL_law 184 = .ok (.iadd, 1) := by decide +kernel
theorem dL_law_185 : decode cL_law 185 = .ok (.invokevirtual 47, 3) := by decide +kernel
theorem dL_law_188 : decode cL_law 188 = .ok (.goto 169, 3) := by decide +kernel
theorem dL_law_191 : decode cL_law 191 = .ok (.iload 7, 2) := by decide +kernel
theorem dL_law_193 : decode cL_law 193 = .ok (.iconst 1, 1) := by decide +kernel
theorem dL_law_194 : decode cL_law 194 = .ok (.if_icmp .ne 24, 3) := by decide +kernel
theorem dL_law_197 : decode cL_law 197 = .ok (.aload_n 1, 1) := by decide +kernel
theorem dL_law_198 : decode cL_law 198 = .ok (.iload 6, 2) := by decide +kernel
theorem dL_law_200 : decode cL_law 200 = .ok (.iconst 1, 1) := by decide +kernel
theorem dL_law_201 : decode cL_law 201 = .ok (.iload 5, 2) := by decide +kernel
theorem dL_law_203 : decode cL_law 203 = .ok (.iconst 4, 1) := by decide +kernel
theorem dL_law_204 : decode cL_law 204 = .ok (.ishr, 1) := by decide +kernel
theorem dL_law_205 : decode cL_law 205 = .ok (.sipush 3000, 3) := by decide +kernel
theorem dL_law_208 : decode cL_law 208 = .ok (.invokestatic 171, 3) := by decide +kernel
theorem dL_law_211 : decode cL_law 211 = .ok (.iadd, 1) := by decide +kernel
theorem dL_law_212 : decode cL_law 212 = .ok (.invokevirtual 50, 3) := by decide +kernel
theorem dL_law_215 : decode cL_law 215 = .ok (.goto 142, 3) := by decide +kernel
theorem dL_law_218 : decode cL_law 218 = .ok (.iload 7, 2) := by decide +kernel
theorem dL_law_220 : decode cL_law 220 = .ok (.iconst 2, 1) := by decide +kernel
theorem dL_law_221 : decode cL_law 221 = .ok (.if_icmp .ne 10, 3) := by decide +kernel
theorem dL_law_224 : decode cL_law 224 = .ok (.aload_n 1, 1) := by decide +kernel
theorem dL_law_225 : decode cL_law 225 = .ok (.invokevirtual 77, 3) := by decide +kernel
theorem dL_law_228 : decode cL_law 228 = .ok (.goto 129, 3) := by decide +kernel
theorem dL_law_231 : decode cL_law 231 = .ok (.iload 7, 2) := by decide +kernel
theorem dL_law_233 : decode cL_law 233 = .ok (.iconst 3, 1) := by decide +kernel
theorem dL_law_234 : decode cL_law 234 = .ok (.if_icmp .ne 20, 3) := by decide +kernel
theorem dL_law_237 : decode cL_law 237 = .ok (.aload_n 1, 1) := by decide +kernel
theorem dL_law_238 : decode cL_law 238 = .ok (.iload 5, 2) := by decide +kernel
theorem dL_law_240 : decode cL_law 240 = .ok (.iconst 4, 1) := by decide +kernel
theorem dL_law_241 : decode cL_law 241 = .ok (.ishr, 1) := by decide +kernel
theorem dL_law_242 : decode cL_law 242 = .ok (.sipush 5001, 3) := by decide +kernel
theorem dL_law_245 : decode cL_law 245 = .ok (.invokestatic 171, 3) := by decide +kernel
theorem dL_law_248 : decode cL_law 248 = .ok (.invokevirtual 41, 3) := by decide +kernel
theorem dL_law_251 : decode cL_law 251 = .ok (.goto 106, 3) := by decide +kernel
theorem dL_law_254 : decode cL_law 254 = .ok (.iload 7, 2) := by decide +kernel
theorem dL_law_256 : decode cL_law 256 = .ok (.iconst 4, 1) := by decide +kernel
theorem dL_law_257 : decode cL_law 257 = .ok (.if_icmp .ne 28, 3) := by decide +kernel
theorem dL_law_260 : decode cL_law 260 = .ok (.aload_n 1, 1) := by decide +kernel
theorem dL_law_261 : decode cL_law 261 = .ok (.iload 5, 2) := by decide +kernel
theorem dL_law_263 : decode cL_law 263 = .ok (.iconst 4, 1) := by decide +kernel
theorem dL_law_264 : decode cL_law 264 = .ok (.ishr, 1) := by decide +kernel
theorem dL_law_265 : decode cL_law 265 = .ok (.bipush 7, 2) := by decide +kernel
theorem dL_law_267 : decode cL_law 267 = .ok (.invokestatic 171, 3) := by decide +kernel
theorem dL_law_270 : decode cL_law 270 = .ok (.iload 5, 2) := by decide +kernel
theorem dL_law_272 : decode cL_law 272 = .ok (.iconst 5, 1) := by decide +kernel
theorem dL_law_273 : decode cL_law 273 = .ok (.ishr, 1) := by decide +kernel
theorem dL_law_274 : decode cL_law 274 = .ok (.bipush 100, 2) := by decide +kernel
theorem dL_law_276 : decode cL_law 276 = .ok (.invokestatic 171, 3) := by decide +kernel
theorem dL_law_279 : decode cL_law 279 = .ok (.invokevirtual 33, 3) := by decide +kernel
theorem dL_law_282 : decode cL_law 282 = .ok (.goto 75, 3) := by decide +kernel
theorem dL_law_285 : decode cL_law 285 = .ok (.iload 7, 2) := by decide +kernel
theorem dL_law_287 : decode cL_law 287 = .ok (.iconst 5, 1) := by decide +kernel
theorem dL_law_288 : decode cL_law 288 = .ok (.if_icmp .ne 41, 3) := by decide +kernel
theorem dL_law_291 : decode cL_law 291 = .ok (.aload_n 1, 1) := by decide +kernel
theorem dL_law_292 : decode cL_law 292 = .ok (.iconst 1, 1) := by decide +kernel
theorem dL_law_293 : decode cL_law 293 = .ok (.iload 5, 2) := by decide +kernel
theorem dL_law_295 : decode cL_law 295 = .ok (.iconst 4, 1) := by decide +kernel
theorem dL_law_296 : decode cL_law 296 = .ok (.ishr, 1) := by decide +kernel
theorem dL_law_297 : decode cL_law 297 = .ok (.bipush 24, 2) := by decide +kernel
theorem dL_law_299 : decode cL_law 299 = .ok (.invokestatic 171, 3) := by decide +kernel
theorem dL_law_302 : decode cL_law 302 = .ok (.iadd, 1) := by decide +kernel
theorem dL_law_303 : decode cL_law 303 = .ok (.iload 5, 2) := by decide +kernel
theorem dL_law_305 : decode cL_law 305 = .ok (.iconst 5, 1) := by decide +kernel
theorem dL_law_306 : decode cL_law 306 = .ok (.ishr, 1) := by decide +kernel
theorem dL_law_307 : decode cL_law 307 = .ok (.sipush 3000, 3) := by decide +kernel
theorem dL_law_310 : decode cL_law 310 = .ok (.invokestatic 171, 3) := by decide +kernel
theorem dL_law_313 : decode cL_law 313 = .ok (.iload 5, 2) := by decide +kernel
theorem dL_law_315 : decode cL_law 315 = .ok (.bipush 6, 2) := by decide +kernel
theorem dL_law_317 : decode cL_law 317 = .ok (.ishr, 1) := by decide +kernel
theorem dL_law_318 : decode cL_law 318 = .ok (.bipush 90, 2) := by decide +kernel
theorem dL_law_320 : decode cL_law 320 = .ok (.invokestatic 171, 3) := by decide +kernel
theorem dL_law_323 : decode cL_law 323 = .ok (.invokevirtual 37, 3) := by decide +kernel
theorem dL_law_326 : decode cL_law 326 = .ok (.goto 31, 3) := by decide +kernel
theorem dL_law_329 : decode cL_law 329 = .ok (.aload_n 1, 1) := by decide +kernel
theorem dL_law_330 : decode cL_law 330 = .ok (.iconst 1, 1) := by decide +kernel
theorem dL_law_331 : decode cL_law 331 = .ok (.iload 5, 2) := by decide +kernel
theorem dL_law_333 : decode cL_law 333 = .ok (.iconst 4, 1) := by decide +kernel
theorem dL_law_334 : decode cL_law 334 = .ok (.ishr, 1) := by decide +kernel
theorem dL_law_335 : decode cL_law 335 = .ok (.iload 7, 2) := by decide +kernel
theorem dL_law_337 : decode cL_law 337 = .ok (.bipush 6, 2) := by decide +kernel
theorem dL_law_339 : decode cL_law 339 = .ok (.if_icmp .ne 9, 3) := by decide +kernel
theorem dL_law_342 : decode cL_law 342 = .ok (.sipush 300, 3) := by decide +kernel
theorem dL_law_345 : decode cL_law 345 = .ok (.goto 5, 3) := by decide +kernel
theorem dL_law_348 : decode cL_law 348 = .ok (.bipush 9, 2) := by decide +kernel
theorem dL_law_350 : decode cL_law 350 = .ok (.invokestatic 171, 3) := by decide +kernel
theorem dL_law_353 : decode cL_law 353 = .ok (.iadd, 1) := by decide +kernel
theorem dL_law_354 : decode cL_law 354 = .ok (.invokevirtual 44, 3) := by decide +kernel
theorem dL_law_357 : decode cL_law 357 = .ok (.istore 8, 2) := by decide +kernel
theorem dL_law_359 : decode cL_law 359 = .ok (.iload_n 3, 1) := by decide +kernel
theorem dL_law_360 : decode cL_law 360 = .ok (.iload 8, 2) := by decide +kernel
theorem dL_law_362 : decode cL_law 362 = .ok (.ifCond .lt 7, 3) := by decide +kernel
theorem dL_law_365 : decode cL_law 365 = .ok (.iconst 1, 1) := by decide +kernel
theorem dL_law_366 : decode cL_law 366 = .ok (.goto 4, 3) := by decide +kernel
theorem dL_law_369 : decode cL_law 369 = .ok (.iconst 0, 1) := by decide +kernel
theorem dL_law_370 : decode cL_law 370 = .ok (.iadd, 1) := by decide +kernel
theorem dL_law_371 : decode cL_law 371 = .ok (.istore_n 3, 1) := by decide +kernel
theorem dL_law_372 : decode cL_law 372 = .ok (.iload 8, 2) := by decide +kernel
theorem dL_law_374 : decode cL_law 374 = .ok (.ifCond .ge 14, 3) := by decide +kernel
theorem dL_law_377 : decode cL_law 377 = .ok (.aload_n 1, 1) := by decide +kernel
theorem dL_law_378 : decode cL_law 378 = .ok (.invokestatic 29, 3) := by decide +kernel
theorem dL_law_381 : decode cL_law 381 = .ok (.aload_n 2, 1) := by decide +kernel
theorem dL_law_382 : decode cL_law 382 = .ok (.iload_n 3, 1) := by decide +kernel
theorem dL_law_383 : decode cL_law 383 = .ok (.laload, 1) := by decide +kernel
theorem dL_law_384 : decode cL_law 384 = .ok (.lcmp, 1) := by decide +kernel
theorem dL_law_385 : decode cL_law 385 = .ok (.ifCond .ne 53, 3) := by decide +kernel
theorem dL_law_388 : decode cL_law 388 = .ok (.aload_n 1, 1) := by decide +kernel
theorem dL_law_389 : decode cL_law 389 = .ok (.bipush 20, 2) := by decide +kernel
theorem dL_law_391 : decode cL_law 391 = .ok (.invokevirtual 13, 3) := by decide +kernel
theorem dL_law_394 : decode cL_law 394 = .ok (.aload_n 1, 1) := by decide +kernel
theorem dL_law_395 : decode cL_law 395 = .ok (.bipush 21, 2) := by decide +kernel
theorem dL_law_397 : decode cL_law 397 = .ok (.invokevirtual 13, 3) := by decide +kernel
theorem dL_law_400 : decode cL_law 400 = .ok (.aload_n 1, 1) := by decide +kernel
theorem dL_law_401 : decode cL_law 401 = .ok (.bipush 22, 2) := by decide +kernel
theorem dL_law_403 : decode cL_law 403 = .ok (.invokevirtual 13, 3) := by decide +kernel
theorem dL_law_406 : decode cL_law 406 = .ok (.iadd, 1) := by decide +kernel
theorem dL_law_407 : decode cL_law 407 = .ok (.aload_n 1, 1) := by decide +kernel
theorem dL_law_408 : decode cL_law 408 = .ok (.bipush 23, 2) := by decide +kernel
theorem dL_law_410 : decode cL_law 410 = .ok (.invokevirtual 13, 3) := by decide +kernel
theorem dL_law_413 : decode cL_law 413 = .ok (.iadd, 1) := by decide +kernel
theorem dL_law_414 : decode cL_law 414 = .ok (.aload_n 1, 1) := by decide +kernel
theorem dL_law_415 : decode cL_law 415 = .ok (.bipush 24, 2) := by decide +kernel
theorem dL_law_417 : decode cL_law 417 = .ok (.invokevirtual 13, 3) := by decide +kernel
theorem dL_law_420 : decode cL_law 420 = .ok (.iadd, 1) := by decide +kernel
theorem dL_law_421 : decode cL_law 421 = .ok (.aload_n 1, 1) := by decide +kernel
theorem dL_law_422 : decode cL_law 422 = .ok (.bipush 25, 2) := by decide +kernel
theorem dL_law_424 : decode cL_law 424 = .ok (.invokevirtual 13, 3) := by decide +kernel
theorem dL_law_427 : decode cL_law 427 = .ok (.iadd, 1) := by decide +kernel
theorem dL_law_428 : decode cL_law 428 = .ok (.aload_n 1, 1) := by decide +kernel
theorem dL_law_429 : decode cL_law 429 = .ok (.bipush 26, 2) := by decide +kernel
theorem dL_law_431 : decode cL_law 431 = .ok (.invokevirtual 13, 3) := by decide +kernel
theorem dL_law_434 : decode cL_law 434 = .ok (.iadd, 1) := by decide +kernel
theorem dL_law_435 : decode cL_law 435 = .ok (.if_icmp .eq 5, 3) := by decide +kernel
theorem dL_law_438 : decode cL_law 438 = .ok (.iconst 0, 1) := by decide +kernel
theorem dL_law_439 : decode cL_law 439 = .ok (.ireturn, 1) := by decide +kernel
theorem dL_law_440 : decode cL_law 440 = .ok (.iinc 4 1, 3) := by decide +kernel
theorem dL_law_443 : decode cL_law 443 = .ok (.goto (-323), 3) := by decide +kernel
theorem dL_law_446 : decode cL_law 446 = .ok (.aload_n 1, 1) := by decide +kernel
theorem dL_law_447 : decode cL_law 447 = .ok (.invokestatic 152, 3) := by decide +kernel
theorem dL_law_450 : decode cL_law 450 = .ok (.ifCond .ne 5, 3) := by decide +kernel
theorem dL_law_453 : decode cL_law 453 = .ok (.iconst 0, 1) := by decide +kernel
theorem dL_law_454 : decode cL_law 454 = .ok (.ireturn, 1) := by decide +kernel
theorem dL_law_455 : decode cL_law 455 = .ok (.iconst 1, 1) := by decide +kernel
theorem dL_law_456 : decode cL_law 456 = .ok (.istore 4, 2) := by decide +kernel
theorem dL_law_458 : decode cL_law 458 = .ok (.iload 4, 2) := by decide +kernel
theorem dL_law_460 : decode cL_law 460 = .ok (.iconst 5, 1) := by decide +kernel
theorem dL_law_461 : decode cL_law 461 = .ok (.if_icmp .gt 56, 3) := by decide +kernel
theorem dL_law_464 : decode cL_law 464 = .ok (.iload 4, 2) := by decide +kernel
theorem dL_law_466 : decode cL_law 466 = .ok (.iload_n 3, 1) := by decide +kernel
theorem dL_law_467 : decode cL_law 467 = .ok (.if_icmp .gt 50, 3) := by decide +kernel
theorem dL_law_470 : decode cL_law 470 = .ok (.aload_n 1, 1) := by decide +kernel
theorem dL_law_471 : decode cL_law 471 = .ok (.invokevirtual 156, 3) := by decide +kernel
theorem dL_law_474 : decode cL_law 474 = .ok (.istore 5, 2) := by decide +kernel
theorem dL_law_476 : decode cL_law 476 = .ok (.iload 5, 2) := by decide +kernel
theorem dL_law_478 : decode cL_law 478 = .ok (.ifCond .lt 31, 3) := by decide +kernel
theorem dL_law_481 : decode cL_law 481 = .ok (.aload_n 1, 1) := by decide +kernel
theorem dL_law_482 : decode cL_law 482 = .ok (.invokestatic 29, 3) := by decide +kernel
theorem dL_law_485 : decode cL_law 485 = .ok (.aload_n 2, 1) := by decide +kernel
theorem dL_law_486 : decode cL_law 486 = .ok (.iload_n 3, 1) := by decide +kernel
theorem dL_law_487 : decode cL_law 487 = .ok (.iload 4, 2) := by decide +kernel
theorem dL_law_489 : decode cL_law 489 = .ok (.isub, 1) := by decide +kernel
theorem dL_law_490 : decode cL_law 490 = .ok (.laload, 1) := by decide +kernel
theorem dL_law_491 : decode cL_law 491 = .ok (.lcmp, 1) := by decide +kernel
theorem dL_law_492 : decode cL_law 492 = .ok (.ifCond .ne 17, 3) := by decide +kernel
theorem dL_law_495 : decode cL_law 495 = .ok (.iload_n 3, 1) := by decide +kernel
theorem dL_law_496 : decode cL_law 496 = .ok (.iconst 4, 1) := by decide +kernel
theorem dL_law_497 : decode cL_law 497 = .ok (.if_icmp .le 14, 3) := by decide +kernel
theorem dL_law_500 : decode cL_law 500 = .ok (.iload 5, 2) := by decide +kernel
theorem dL_law_502 : decode cL_law 502 = .ok (.iconst 5, 1) := by decide +kernel
theorem dL_law_503 : decode cL_law 503 = .ok (.iload 4, 2) := by decide +kernel
theorem dL_law_505 : decode cL_law 505 = .ok (.isub, 1) := by decide +kernel
theorem dL_law_506 : decode cL_law 506 = .ok (.if_icmp .eq 5, 3) := by decide +kernel
theorem dL_law_509 : decode cL_law 509 = .ok (.iconst 0, 1) := by decide +kernel
theorem dL_law_510 : decode cL_law 510 = .ok (.ireturn, 1) := by decide +kernel
theorem dL_law_511 : decode cL_law 511 = .ok (.iinc 4 1, 3) := by decide +kernel
theorem dL_law_514 : decode cL_law 514 = .ok (.goto (-56), 3) := by decide +kernel
theorem dL_law_517 : decode cL_law 517 = .ok (.iload_n 3, 1) := by decide +kernel
theorem dL_law_518 : decode cL_law 518 = .ok (.iconst 4, 1) := by decide +kernel
theorem dL_law_519 : decode cL_law 519 = .ok (.if_icmp .le 14, 3) := by decide +kernel
theorem dL_law_522 : decode cL_law 522 = .ok (.aload_n 1, 1) := by decide +kernel
theorem dL_law_523 : decode cL_law 523 = .ok (.invokevirtual 156, 3) := by decide +kernel
theorem dL_law_526 : decode cL_law 526 = .ok (.bipush (-2), 2) := by decide +kernel
theorem dL_law_528 : decode cL_law 528 = .ok (.if_icmp .eq 5, 3) := by decide +kernel
theorem dL_law_531 : decode cL_law 531 = .ok (.iconst 0, 1) := by decide +kernel
theorem dL_law_532 : decode cL_law 532 = .ok (.ireturn, 1) := by decide +kernel
theorem dL_law_533 : decode cL_law 533 = .ok (.new 14, 3) := by decide +kernel
theorem dL_law_536 : decode cL_law 536 = .ok (.dup, 1) := by decide +kernel
theorem dL_law_537 : decode cL_law 537 = .ok (.invokespecial 90, 3) := by decide +kernel
theorem dL_law_540 : decode cL_law 540 = .ok (.astore 4, 2) := by decide +kernel
theorem dL_law_542 : decode cL_law 542 = .ok (.iconst 0, 1) := by decide +kernel
theorem dL_law_543 : decode cL_law 543 = .ok (.istore 5, 2) := by decide +kernel
theorem dL_law_545 : decode cL_law 545 = .ok (.iload 5, 2) := by decide +kernel
theorem dL_law_547 : decode cL_law 547 = .ok (.bipush 100, 2) := by decide +kernel
theorem dL_law_549 : decode cL_law 549 = .ok (.if_icmp .ge 22, 3) := by decide +kernel
theorem dL_law_552 : decode cL_law 552 = .ok (.aload 4, 2) := by decide +kernel
theorem dL_law_554 : decode cL_law 554 = .ok (.sipush 1000, 3) := by decide +kernel
theorem dL_law_557 : decode cL_law 557 = .ok (.invokevirtual 44, 3) := by decide +kernel
theorem dL_law_560 : decode cL_law 560 = .ok (.ifCond .eq 5, 3) := by decide +kernel
theorem dL_law_563 : decode cL_law 563 = .ok (.iconst 0, 1) := by decide +kernel
theorem dL_law_564 : decode cL_law 564 = .ok (.ireturn, 1) := by decide +kernel
theorem dL_law_565 : decode cL_law 565 = .ok (.iinc 5 1, 3) := by decide +kernel
theorem dL_law_568 : decode cL_law 568 = .ok (.goto (-23), 3) := by decide +kernel
theorem dL_law_571 : decode cL_law 571 = .ok (.aload 4, 2) := by decide +kernel
theorem dL_law_573 : decode cL_law 573 = .ok (.iconst 1, 1) := by decide +kernel
theorem dL_law_574 : decode cL_law 574 = .ok (.invokevirtual 44, 3) := by decide +kernel
theorem dL_law_577 : decode cL_law 577 = .ok (.bipush (-3), 2) := by decide +kernel
theorem dL_law_579 : decode cL_law 579 = .ok (.if_icmp .ne 48, 3) := by decide +kernel
theorem dL_law_582 : decode cL_law 582 = .ok (.aload 4, 2) := by decide +kernel
theorem dL_law_584 : decode cL_law 584 = .ok (.iconst 0, 1) := by decide +kernel
theorem dL_law_585 : decode cL_law 585 = .ok (.invokevirtual 44, 3) := by decide +kernel
theorem dL_law_588 : decode cL_law 588 = .ok (.iconst (-1), 1) := by decide +kernel
theorem dL_law_589 : decode cL_law 589 = .ok (.if_icmp .ne 38, 3) := by decide +kernel
theorem dL_law_592 : decode cL_law 592 = .ok (.aload 4, 2) := by decide +kernel
theorem dL_law_594 : decode cL_law 594 = .ok (.iconst 1, 1) := by decide +kernel
theorem dL_law_595 : decode cL_law 595 = .ok (.invokevirtual 13, 3) := by decide +kernel
theorem dL_law_598 : decode cL_law 598 = .ok (.ldc 159, 2) := by decide +kernel
theorem dL_law_600 : decode cL_law 600 = .ok (.if_icmp .ne 27, 3) := by decide +kernel
theorem dL_law_603 : decode cL_law 603 = .ok (.aload 4, 2) := by decide +kernel
theorem dL_law_605 : decode cL_law 605 = .ok (.invokevirtual 156, 3) := by decide +kernel
theorem dL_law_608 : decode cL_law 608 = .ok (.iconst 4, 1) := by decide +kernel
theorem dL_law_609 : decode cL_law 609 = .ok (.if_icmp .ne 18, 3) := by decide +kernel
theorem dL_law_612 : decode cL_law 612 = .ok (.aload 4, 2) := by decide +kernel
theorem dL_law_614 : decode cL_law 614 = .ok (.sipush 1000, 3) := by decide +kernel
theorem dL_law_617 : decode cL_law 617 = .ok (.invokevirtual 44, 3) := by decide +kernel
theorem dL_law_620 : decode cL_law 620 = .ok (.ifCond .ne 7, 3) := by decide +kernel
theorem dL_law_623 : decode cL_law 623 = .ok (.iconst 1, 1) := by decide +kernel
theorem dL_law_624 : decode cL_law 624 = .ok (.goto 4, 3) := by decide +kernel
theorem dL_law_627 : decode cL_law 627 = .ok (.iconst 0, 1) := by decide +kernel
theorem dL_law_628 : decode cL_law 628 = .ok (.ireturn, 1) := by decide +kernel
theorem good_cons {big ws : List Cond} {c : Cond} (h : GoodIn big ws) : GoodIn (c :: big) ws := fun w hw => ⟨List.mem_cons_of_mem c (h w hw).1, (h w hw).2⟩
set_option maxRecDepth 20000 in
theorem law_good : wsL_law.all goodWord = true := by decide +kernel
theorem goodB {c d : Cond} (h : GoodIn wsL_law [d]) : GoodIn (c :: wsL_law) (d :: wsL_law) := fun w hw => (List.mem_cons.mp hw).elim (fun e => ⟨List.mem_cons_of_mem c (h w (by rw [e]; exact List.mem_cons_self)).1, (h w (by rw [e]; exact List.mem_cons_self)).2⟩) (fun q => ⟨List.mem_cons_of_mem c q, good_of_word (List.all_eq_true.mp law_good w q)⟩)
def wsL_state : List Cond := .code yL_state cL_state 4 (some .long) :: wsL_law
def wsL_refused : List Cond := .code yL_refused cL_refused 4 (some .boolean) :: wsL_law
def wsL_types : List Cond := .code yL_types cL_types 5 none :: wsL_law
def wsL_isFault : List Cond := .code yL_isFault cL_isFault 7 (some .boolean) :: wsL_law
def wsL_texts : List Cond := .code yL_texts cL_texts 2 (some .boolean) :: wsL_law
def wsL_known : List Cond := .code yL_known cL_known 1 (some .boolean) :: wsL_law
set_option maxRecDepth 20000 in
theorem ggL_law_X4_clearText : GoodIn wsL_law wsX4_clearText := goodIn_r _ [86, 54, 87, 416, 417, 418, 419, 432, 433, 434, 435, 436, 437] (by decide +kernel) (by decide +kernel)
set_option maxRecDepth 20000 in
theorem gL_law_X4_clearText : GoodIn wsL_law (wsV RL 83 RX4 yX4_clearText wsX4_clearText) := goodIn_app (goodIn_of _ (by decide +kernel)) ggL_law_X4_clearText
set_option maxRecDepth 20000 in
theorem ggL_law_X4_colourOf : GoodIn wsL_law wsX4_colourOf := goodIn_r _ [379, 45, 183, 294, 129, 2, 130, 96, 97, 98, 380, 212, 213, 214, 215, 216, 217, 218, 219, 220, 221, 222, 223, 224, 225, 226, 227, 228, 229, 416, 417, 418, 419, 420, 421, 422, 423, 424, 425, 426, 427, 428, 429] (by decide +kernel) (by decide +kernel)
set_option maxRecDepth 20000 in
theorem gL_law_X4_colourOf : GoodIn wsL_law (wsV RL 62 RX4 yX4_colourOf wsX4_colourOf) := goodIn_app (goodIn_of _ (by decide +kernel)) ggL_law_X4_colourOf
set_option maxRecDepth 20000 in
theorem ggL_law_X4_fault : GoodIn wsL_law wsX4_fault := goodIn_r _ [107, 54, 108, 109, 96, 97, 2, 98, 110, 111, 112, 53, 113, 114, 115, 103, 78, 116, 117, 118, 119, 120, 79, 121, 122, 123, 124, 125, 126, 127, 128, 129, 130, 416, 417, 418, 419, 432, 433, 434, 435, 436, 437] (by decide +kernel) (by decide +kernel)
set_option maxRecDepth 20000 in
theorem gL_law_X4_fault : GoodIn wsL_law (wsV RL 74 RX4 yX4_fault wsX4_fault) := goodIn_app (goodIn_of _ (by decide +kernel)) ggL_law_X4_fault
set_option maxRecDepth 20000 in
theorem ggL_law_X4_find : GoodIn wsL_law wsX4_find := goodIn_r _ [372, 45, 137, 373, 374, 2, 375, 96, 97, 98, 266, 208, 209, 44, 210, 60, 61, 211, 212, 213, 214, 215, 216, 217, 218, 219, 220, 221, 222, 223, 224, 225, 226, 227, 228, 229, 416, 417, 418, 419, 420, 421, 422, 423, 424, 425, 426, 427, 428, 429] (by decide +kernel) (by decide +kernel)
set_option maxRecDepth 20000 in
theorem gL_law_X4_find : GoodIn wsL_law (wsV RL 59 RX4 yX4_find wsX4_find) := goodIn_app (goodIn_of _ (by decide +kernel)) ggL_law_X4_find
set_option maxRecDepth 20000 in
theorem ggL_law_X4_ifGo : GoodIn wsL_law wsX4_ifGo := goodIn_r _ [362, 45, 46, 137, 257, 258, 259, 260, 44, 261, 151, 96, 97, 2, 98, 363, 148, 149, 150, 60, 63, 64, 65, 66, 61, 62, 152, 153, 154, 155, 156, 157, 304, 305, 306, 307, 308, 309, 310, 311, 312, 313, 314, 315, 316, 317, 318, 247, 319, 320, 321, 322, 323, 166, 167, 168, 169, 324, 325, 326, 327, 195, 196, 197, 198, 328, 329, 330, 331, 332, 333, 334, 335, 336, 337, 338, 339, 340, 341, 342, 343, 344, 192, 193, 194, 345, 346, 347, 348, 162, 163, 164, 165, 416, 417, 418, 419, 420, 421, 422, 423, 424, 425, 426, 427, 428, 429] (by decide +kernel) (by decide +kernel)
set_option maxRecDepth 20000 in
theorem gL_law_X4_ifGo : GoodIn wsL_law (wsV RL 53 RX4 yX4_ifGo wsX4_ifGo) := goodIn_app (goodIn_of _ (by decide +kernel)) ggL_law_X4_ifGo
set_option maxRecDepth 20000 in
theorem ggL_law_X4_ladder : GoodIn wsL_law wsX4_ladder := goodIn_r _ [367, 45, 137, 368, 204, 205, 44, 206, 207, 208, 209, 210, 60, 61, 211, 212, 213, 214, 215, 216, 217, 218, 219, 220, 221, 222, 223, 224, 225, 226, 227, 228, 229, 266, 416, 417, 418, 419, 420, 421, 422, 423, 424, 425, 426, 427, 428, 429] (by decide +kernel) (by decide +kernel)
set_option maxRecDepth 20000 in
theorem gL_law_X4_ladder : GoodIn wsL_law (wsV RL 56 RX4 yX4_ladder wsX4_ladder) := goodIn_app (goodIn_of _ (by decide +kernel)) ggL_law_X4_ladder
set_option maxRecDepth 20000 in
theorem ggL_law_X4_read : GoodIn wsL_law wsX4_read := goodIn_r _ [134, 54, 108, 50, 45, 135, 136, 137, 110, 111, 112, 53, 113, 114, 115, 103, 78, 116, 117, 118, 119, 120, 79, 121, 122, 123, 124, 125, 126, 127, 128, 129, 2, 130, 96, 97, 98, 138, 139, 140, 49, 141, 142, 72, 143, 144, 145, 146, 147, 148, 149, 44, 150, 60, 63, 64, 65, 66, 61, 62, 151, 152, 153, 154, 155, 156, 157, 158, 159, 160, 161, 162, 163, 164, 165, 166, 167, 168, 169, 170, 171, 172, 173, 174, 175, 176, 177, 416, 417, 418, 419, 432, 433, 434, 435, 436, 437, 420, 421, 422, 423, 424, 425, 426, 427, 428, 429, 430, 431] (by decide +kernel) (by decide +kernel)
set_option maxRecDepth 20000 in
theorem gL_law_X4_read : GoodIn wsL_law (wsV RL 147 RX4 yX4_read wsX4_read) := goodIn_app (goodIn_of _ (by decide +kernel)) ggL_law_X4_read
set_option maxRecDepth 20000 in
theorem ggL_law_X4_row : GoodIn wsL_law wsX4_row := goodIn_r _ [256, 45, 257, 258, 259, 260, 44, 261, 151, 262, 216, 213, 217, 263, 219, 220, 221, 222, 223, 264, 225, 226, 265, 228, 229, 266, 208, 209, 210, 60, 61, 211, 212, 214, 215, 218, 224, 227, 267, 251, 252, 268, 196, 197, 198, 416, 417, 418, 419, 420, 421, 422, 423, 424, 425, 426, 427, 428, 429] (by decide +kernel) (by decide +kernel)
set_option maxRecDepth 20000 in
theorem gL_law_X4_row : GoodIn wsL_law (wsV RL 25 RX4 yX4_row wsX4_row) := goodIn_app (goodIn_of _ (by decide +kernel)) ggL_law_X4_row
set_option maxRecDepth 20000 in
theorem ggL_law_X4_thicknessFor : GoodIn wsL_law wsX4_thicknessFor := goodIn_r _ [384, 45, 183, 373, 374, 2, 375, 96, 97, 98, 294, 129, 130, 380, 212, 213, 214, 215, 216, 217, 218, 219, 220, 221, 222, 223, 224, 225, 226, 227, 228, 229, 416, 417, 418, 419, 420, 421, 422, 423, 424, 425, 426, 427, 428, 429] (by decide +kernel) (by decide +kernel)
set_option maxRecDepth 20000 in
theorem gL_law_X4_thicknessFor : GoodIn wsL_law (wsV RL 65 RX4 yX4_thicknessFor wsX4_thicknessFor) := goodIn_app (goodIn_of _ (by decide +kernel)) ggL_law_X4_thicknessFor
set_option maxRecDepth 20000 in
theorem ggL_law_X4_type : GoodIn wsL_law wsX4_type := goodIn_r _ [95, 54, 87, 96, 97, 2, 98, 99, 100, 101, 53, 102, 103, 78, 416, 417, 418, 419, 432, 433, 434, 435, 436, 437] (by decide +kernel) (by decide +kernel)
set_option maxRecDepth 20000 in
theorem gL_law_X4_type : GoodIn wsL_law (wsV RL 71 RX4 yX4_type wsX4_type) := goodIn_app (goodIn_of _ (by decide +kernel)) ggL_law_X4_type
set_option maxRecDepth 20000 in
theorem ggL_law_X4_until : GoodIn wsL_law wsX4_until := goodIn_r _ [388, 46, 45, 137, 389, 390, 2, 391, 96, 97, 98, 373, 374, 375, 363, 148, 149, 44, 150, 60, 63, 64, 65, 66, 61, 62, 151, 152, 153, 154, 155, 156, 157, 392, 393, 394, 395, 189, 191, 192, 193, 194, 195, 196, 197, 198, 266, 208, 209, 210, 211, 212, 213, 214, 215, 216, 217, 218, 219, 220, 221, 222, 223, 224, 225, 226, 227, 228, 229, 304, 305, 306, 307, 308, 309, 310, 311, 312, 313, 314, 315, 316, 317, 318, 247, 319, 320, 321, 322, 323, 166, 167, 168, 169, 324, 325, 326, 327, 328, 329, 330, 331, 332, 333, 334, 335, 336, 337, 338, 339, 340, 341, 342, 343, 344, 345, 346, 347, 348, 162, 163, 164, 165, 416, 417, 418, 419, 420, 421, 422, 423, 424, 425, 426, 427, 428, 429] (by decide +kernel) (by decide +kernel)
set_option maxRecDepth 20000 in
theorem gL_law_X4_until : GoodIn wsL_law (wsV RL 68 RX4 yX4_until wsX4_until) := goodIn_app (goodIn_of _ (by decide +kernel)) ggL_law_X4_until
theorem gL_state_X4_count : GoodIn wsL_state (wsV RL 13 RX4 yX4_count wsX4_count) := good_cons gL_law_X4_count
theorem gL_state_X4_row : GoodIn wsL_state (wsV RL 25 RX4 yX4_row wsX4_row) := good_cons gL_law_X4_row
theorem gL_refused_X4_count : GoodIn wsL_refused (wsV RL 13 RX4 yX4_count wsX4_count) := good_cons gL_law_X4_count
theorem gL_refused_X4_set : GoodIn wsL_refused (wsV RL 33 RX4 yX4_set wsX4_set) := good_cons gL_law_X4_set
theorem gL_refused_X4_dip : GoodIn wsL_refused (wsV RL 37 RX4 yX4_dip wsX4_dip) := good_cons gL_law_X4_dip
theorem gL_refused_X4_add : GoodIn wsL_refused (wsV RL 41 RX4 yX4_add wsX4_add) := good_cons gL_law_X4_add
theorem gL_refused_X4_go : GoodIn wsL_refused (wsV RL 44 RX4 yX4_go wsX4_go) := good_cons gL_law_X4_go
theorem gL_refused_X4_pour : GoodIn wsL_refused (wsV RL 47 RX4 yX4_pour wsX4_pour) := good_cons gL_law_X4_pour
theorem gL_refused_X4_thin : GoodIn wsL_refused (wsV RL 50 RX4 yX4_thin wsX4_thin) := good_cons gL_law_X4_thin
theorem gL_refused_X4_row : GoodIn wsL_refused (wsV RL 25 RX4 yX4_row wsX4_row) := good_cons gL_law_X4_row
theorem gL_refused_X4_ifGo : GoodIn wsL_refused (wsV RL 53 RX4 yX4_ifGo wsX4_ifGo) := good_cons gL_law_X4_ifGo
theorem gL_refused_X4_ladder : GoodIn wsL_refused (wsV RL 56 RX4 yX4_ladder wsX4_ladder) := good_cons gL_law_X4_ladder
theorem gL_refused_X4_find : GoodIn wsL_refused (wsV RL 59 RX4 yX4_find wsX4_find) := good_cons gL_law_X4_find
theorem gL_refused_X4_colourOf : GoodIn wsL_refused (wsV RL 62 RX4 yX4_colourOf wsX4_colourOf) := good_cons gL_law_X4_colourOf
theorem gL_refused_X4_thicknessFor : GoodIn wsL_refused (wsV RL 65 RX4 yX4_thicknessFor wsX4_thicknessFor) := good_cons gL_law_X4_thicknessFor
theorem gL_refused_X4_until : GoodIn wsL_refused (wsV RL 68 RX4 yX4_until wsX4_until) := good_cons gL_law_X4_until
theorem gL_refused_X4_type : GoodIn wsL_refused (wsV RL 71 RX4 yX4_type wsX4_type) := good_cons gL_law_X4_type
theorem gL_refused_X4_fault : GoodIn wsL_refused (wsV RL 74 RX4 yX4_fault wsX4_fault) := good_cons gL_law_X4_fault
theorem gL_refused_X4_cut : GoodIn wsL_refused (wsV RL 77 RX4 yX4_cut wsX4_cut) := good_cons gL_law_X4_cut
theorem gL_types_X4_type : GoodIn wsL_types (wsV RL 71 RX4 yX4_type wsX4_type) := good_cons gL_law_X4_type
theorem gL_isFault_X4_clearText : GoodIn wsL_isFault (wsV RL 83 RX4 yX4_clearText wsX4_clearText) := good_cons gL_law_X4_clearText
theorem gL_isFault_X4_fault : GoodIn wsL_isFault (wsV RL 74 RX4 yX4_fault wsX4_fault) := good_cons gL_law_X4_fault
theorem gL_texts_X4_init : GoodIn wsL_texts wsX4_init := good_cons ggL_law_X4_init
theorem gL_texts_X4_read : GoodIn wsL_texts (wsV RL 147 RX4 yX4_read wsX4_read) := good_cons gL_law_X4_read
theorem gL_texts_X4_count : GoodIn wsL_texts (wsV RL 13 RX4 yX4_count wsX4_count) := good_cons gL_law_X4_count
theorem gL_texts_X4_row : GoodIn wsL_texts (wsV RL 25 RX4 yX4_row wsX4_row) := good_cons gL_law_X4_row
theorem gL_texts_X4_clearText : GoodIn wsL_texts (wsV RL 83 RX4 yX4_clearText wsX4_clearText) := good_cons gL_law_X4_clearText
theorem gL_texts_X4_fault : GoodIn wsL_texts (wsV RL 74 RX4 yX4_fault wsX4_fault) := good_cons gL_law_X4_fault
theorem gL_texts_X4_type : GoodIn wsL_texts (wsV RL 71 RX4 yX4_type wsX4_type) := good_cons gL_law_X4_type
theorem gL_known_X4_init : GoodIn wsL_known wsX4_init := good_cons ggL_law_X4_init
theorem gL_known_X4_undo : GoodIn wsL_known (wsV RL 156 RX4 yX4_undo wsX4_undo) := good_cons gL_law_X4_undo
theorem gL_known_X4_go : GoodIn wsL_known (wsV RL 44 RX4 yX4_go wsX4_go) := good_cons gL_law_X4_go
theorem gL_known_X4_count : GoodIn wsL_known (wsV RL 13 RX4 yX4_count wsX4_count) := good_cons gL_law_X4_count
theorem gL_known_X4_dip : GoodIn wsL_known (wsV RL 37 RX4 yX4_dip wsX4_dip) := good_cons gL_law_X4_dip
theorem gL_known_X4_row : GoodIn wsL_known (wsV RL 25 RX4 yX4_row wsX4_row) := good_cons gL_law_X4_row
theorem gL_known_X4_set : GoodIn wsL_known (wsV RL 33 RX4 yX4_set wsX4_set) := good_cons gL_law_X4_set
theorem gL_known_X4_until : GoodIn wsL_known (wsV RL 68 RX4 yX4_until wsX4_until) := good_cons gL_law_X4_until
theorem gL_known_X4_ifGo : GoodIn wsL_known (wsV RL 53 RX4 yX4_ifGo wsX4_ifGo) := good_cons gL_law_X4_ifGo
theorem gL_known_X4_pour : GoodIn wsL_known (wsV RL 47 RX4 yX4_pour wsX4_pour) := good_cons gL_law_X4_pour
theorem gL_known_X4_thin : GoodIn wsL_known (wsV RL 50 RX4 yX4_thin wsX4_thin) := good_cons gL_law_X4_thin
theorem gL_known_X4_cut : GoodIn wsL_known (wsV RL 77 RX4 yX4_cut wsX4_cut) := good_cons gL_law_X4_cut
theorem gL_known_X4_add : GoodIn wsL_known (wsV RL 41 RX4 yX4_add wsX4_add) := good_cons gL_law_X4_add
set_option maxRecDepth 20000 in
theorem hL_isFault_l : GoodIn wsL_law [.methodLink RL 93 yL_isFault, .static yL_isFault, .initialized RL] := goodIn_r _ [80, 81, 7] (by decide +kernel) (by decide +kernel)
theorem hL_isFault_c : GoodIn wsL_law [.code yL_isFault cL_isFault 7 (some .boolean)] := fun w hw => by
  obtain rfl := List.mem_singleton.mp hw
  exact ⟨List.mem_of_getElem? (i := 82) rfl, good_of_word rfl⟩
set_option maxRecDepth 20000 in
theorem hL_known_l : GoodIn wsL_law [.methodLink RL 164 yL_known, .static yL_known, .initialized RL] := goodIn_r _ [269, 270, 7] (by decide +kernel) (by decide +kernel)
theorem hL_known_c : GoodIn wsL_law [.code yL_known cL_known 1 (some .boolean)] := fun w hw => by
  obtain rfl := List.mem_singleton.mp hw
  exact ⟨List.mem_of_getElem? (i := 271) rfl, good_of_word rfl⟩
set_option maxRecDepth 20000 in
theorem hL_mixed : GoodIn wsL_law (va_wsS RL 19 yL_mixed wsL_mixed) := goodIn_app (goodIn_of _ (by decide +kernel)) (goodIn_of _ (by decide +kernel))
set_option maxRecDepth 20000 in
theorem hL_part : GoodIn wsL_law (va_wsS RL 171 yL_part wsL_part) := goodIn_app (goodIn_of _ (by decide +kernel)) (goodIn_of _ (by decide +kernel))
set_option maxRecDepth 20000 in
theorem hL_refused_l : GoodIn wsL_law [.methodLink RL 152 yL_refused, .static yL_refused, .initialized RL] := goodIn_r _ [272, 273, 7] (by decide +kernel) (by decide +kernel)
theorem hL_refused_c : GoodIn wsL_law [.code yL_refused cL_refused 4 (some .boolean)] := fun w hw => by
  obtain rfl := List.mem_singleton.mp hw
  exact ⟨List.mem_of_getElem? (i := 274) rfl, good_of_word rfl⟩
set_option maxRecDepth 20000 in
theorem hL_state_l : GoodIn wsL_law [.methodLink RL 29 yL_state, .static yL_state, .initialized RL] := goodIn_r _ [276, 277, 7] (by decide +kernel) (by decide +kernel)
theorem hL_state_c : GoodIn wsL_law [.code yL_state cL_state 4 (some .long)] := fun w hw => by
  obtain rfl := List.mem_singleton.mp hw
  exact ⟨List.mem_of_getElem? (i := 278) rfl, good_of_word rfl⟩
set_option maxRecDepth 20000 in
theorem hL_take : GoodIn wsL_law (va_wsS RL 167 yL_take wsL_take) := goodIn_app (goodIn_of _ (by decide +kernel)) (goodIn_of _ (by decide +kernel))
set_option maxRecDepth 20000 in
theorem hL_texts_l : GoodIn wsL_law [.methodLink RL 160 yL_texts, .static yL_texts, .initialized RL] := goodIn_r _ [5, 6, 7] (by decide +kernel) (by decide +kernel)
theorem hL_texts_c : GoodIn wsL_law [.code yL_texts cL_texts 2 (some .boolean)] := fun w hw => by
  obtain rfl := List.mem_singleton.mp hw
  exact ⟨List.mem_of_getElem? (i := 8) rfl, good_of_word rfl⟩
set_option maxRecDepth 20000 in
theorem hL_types_l : GoodIn wsL_law [.methodLink RL 86 yL_types, .static yL_types, .initialized RL] := goodIn_r _ [88, 89, 7] (by decide +kernel) (by decide +kernel)
theorem hL_types_c : GoodIn wsL_law [.code yL_types cL_types 5 none] := fun w hw => by
  obtain rfl := List.mem_singleton.mp hw
  exact ⟨List.mem_of_getElem? (i := 90) rfl, good_of_word rfl⟩
theorem gL_state_L_mixed : GoodIn wsL_state (va_wsS RL 19 yL_mixed wsL_mixed) := good_cons hL_mixed
theorem gL_refused_L_state : GoodIn wsL_refused (va_wsS RL 29 yL_state wsL_state) := goodIn_app (good_cons hL_state_l) (goodB hL_state_c)
theorem gL_refused_L_mixed : GoodIn wsL_refused (va_wsS RL 19 yL_mixed wsL_mixed) := good_cons hL_mixed
theorem gL_isFault_L_types : GoodIn wsL_isFault (va_wsS RL 86 yL_types wsL_types) := goodIn_app (good_cons hL_types_l) (goodB hL_types_c)
theorem gL_texts_L_isFault : GoodIn wsL_texts (va_wsS RL 93 yL_isFault wsL_isFault) := goodIn_app (good_cons hL_isFault_l) (goodB hL_isFault_c)
theorem gL_known_L_refused : GoodIn wsL_known (va_wsS RL 152 yL_refused wsL_refused) := goodIn_app (good_cons hL_refused_l) (goodB hL_refused_c)
theorem gL_law_L_texts : GoodIn wsL_law (va_wsS RL 160 yL_texts wsL_texts) := goodIn_app hL_texts_l (fun w hw => (List.mem_cons.mp hw).elim (fun e => hL_texts_c w (by rw [e]; exact List.mem_cons_self)) (fun q => ⟨q, good_of_word (List.all_eq_true.mp law_good w q)⟩))
theorem gL_law_L_known : GoodIn wsL_law (va_wsS RL 164 yL_known wsL_known) := goodIn_app hL_known_l (fun w hw => (List.mem_cons.mp hw).elim (fun e => hL_known_c w (by rw [e]; exact List.mem_cons_self)) (fun q => ⟨q, good_of_word (List.all_eq_true.mp law_good w q)⟩))
theorem gL_law_L_refused : GoodIn wsL_law (va_wsS RL 152 yL_refused wsL_refused) := goodIn_app hL_refused_l (fun w hw => (List.mem_cons.mp hw).elim (fun e => hL_refused_c w (by rw [e]; exact List.mem_cons_self)) (fun q => ⟨q, good_of_word (List.all_eq_true.mp law_good w q)⟩))
theorem gL_law_L_state : GoodIn wsL_law (va_wsS RL 29 yL_state wsL_state) := goodIn_app hL_state_l (fun w hw => (List.mem_cons.mp hw).elim (fun e => hL_state_c w (by rw [e]; exact List.mem_cons_self)) (fun q => ⟨q, good_of_word (List.all_eq_true.mp law_good w q)⟩))
abbrev vwCl : List vw_C := [(RX0, TX0, 10), (RX1, TX1, 6), (RX2, TX2, 2), (RX4, TX4, 4)]
