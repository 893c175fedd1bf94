theorem mem_r {big : List Cond} (ws : List Cond) (ps : List Nat) (hp : ws = ps.filterMap (fun i => big[i]?)) : ∀ w ∈ ws, w ∈ big := by
  intro w hw
  rw [hp] at hw
  obtain ⟨i, -, hi⟩ := List.mem_filterMap.mp hw
  first | exact List.mem_of_getElem? hi | exact List.getElem?_mem hi
theorem mem_app {big a b : List Cond} (ha : ∀ w ∈ a, w ∈ big) (hb : ∀ w ∈ b, w ∈ big) : ∀ w ∈ a ++ b, w ∈ big := fun w h => (List.mem_append.mp h).elim (ha w) (hb w)
set_option maxRecDepth 20000 in
theorem wsL_law_r1_in : ∀ w ∈ wsL_law_r1, w ∈ lw_tbl := mem_r wsL_law_r1 [24, 25, 16, 486, 485, 437, 438, 15, 439, 440, 452, 453, 454, 455, 456, 457, 458, 459, 460, 461, 462, 463, 464, 465] (by decide +kernel)
set_option maxRecDepth 20000 in
theorem wsL_law_r2_in : ∀ w ∈ wsL_law_r2, w ∈ lw_tbl := mem_r wsL_law_r2 [466, 467, 468, 469, 470, 471, 472, 473, 474, 475, 476, 481, 26, 27, 28, 29, 30, 31, 32, 33, 17, 133, 134, 85] (by decide +kernel)
set_option maxRecDepth 20000 in
theorem wsL_law_r3_in : ∀ w ∈ wsL_law_r3, w ∈ lw_tbl := mem_r wsL_law_r3 [86, 19, 135, 102, 103, 20, 136, 34, 35, 36, 37, 84, 43, 45, 47, 40, 42, 41, 18, 87, 88, 89, 90, 91] (by decide +kernel)
set_option maxRecDepth 20000 in
theorem wsL_law_r4_in : ∀ w ∈ wsL_law_r4, w ∈ lw_tbl := mem_r wsL_law_r4 [94, 93, 105, 106, 107, 132, 108, 111, 441, 442, 443, 444, 445, 446, 447, 110, 448, 449, 450, 451, 407, 408, 409, 410] (by decide +kernel)
set_option maxRecDepth 20000 in
theorem wsL_law_r5_in : ∀ w ∈ wsL_law_r5, w ∈ lw_tbl := mem_r wsL_law_r5 [154, 155, 156, 411, 412, 413, 414, 109, 415, 416, 417, 418, 118, 116, 419, 420, 421, 422, 113, 117, 115, 423, 425, 12] (by decide +kernel)
set_option maxRecDepth 20000 in
theorem wsL_law_r6_in : ∀ w ∈ wsL_law_r6, w ∈ lw_tbl := mem_r wsL_law_r6 [426, 427, 429, 13, 430, 431, 433, 14, 434, 174, 175, 477, 478, 479, 480, 114, 112, 50, 157, 158, 159, 160, 95, 161] (by decide +kernel)
set_option maxRecDepth 20000 in
theorem wsL_law_r7_in : ∀ w ∈ wsL_law_r7, w ∈ lw_tbl := mem_r wsL_law_r7 [163, 0, 164, 165, 166, 167, 168, 49, 51, 53, 55, 57, 59, 61, 176, 177, 178, 179, 180, 182, 1, 183, 184, 186] (by decide +kernel)
set_option maxRecDepth 20000 in
theorem wsL_law_r8_in : ∀ w ∈ wsL_law_r8, w ∈ lw_tbl := mem_r wsL_law_r8 [2, 187, 188, 189, 190, 191, 192, 193, 194, 195, 283, 284, 285, 286, 48, 46, 52, 58, 56, 60, 62, 54, 96, 287] (by decide +kernel)
set_option maxRecDepth 20000 in
theorem wsL_law_r9_in : ∀ w ∈ wsL_law_r9, w ∈ lw_tbl := mem_r wsL_law_r9 [268, 269, 270, 247, 248, 249, 250, 288, 289, 290, 291, 292, 293, 294, 295, 296, 297, 298, 299, 300, 301, 21, 302, 303] (by decide +kernel)
set_option maxRecDepth 20000 in
theorem wsL_law_r10_in : ∀ w ∈ wsL_law_r10, w ∈ lw_tbl := mem_r wsL_law_r10 [304, 305, 306, 307, 308, 309, 310, 311, 312, 313, 314, 315, 316, 317, 318, 319, 320, 321, 322, 323, 22, 324, 325, 326] (by decide +kernel)
set_option maxRecDepth 20000 in
theorem wsL_law_r11_in : ∀ w ∈ wsL_law_r11, w ∈ lw_tbl := mem_r wsL_law_r11 [327, 328, 329, 330, 331, 336, 337, 23, 338, 332, 333, 334, 335, 355, 356, 357, 358, 44, 200, 201, 202, 203, 359, 360] (by decide +kernel)
set_option maxRecDepth 20000 in
theorem law12_0 : ∀ w ∈ ([Cond.methodLink RX4 104 yX3_green, Cond.methodLink RX4 107 yX3_blue, Cond.methodLink RX4 110 yX0_colourAt, Cond.methodLink RX4 113 yX3_order, Cond.methodLink RX4 116 yX0_isBlack, Cond.methodLink RL 164 yL_known, Cond.static yL_known] : List Cond), w ∈ lw_tbl := mem_r _ [361, 362, 363, 364, 365, 482, 483] (by decide +kernel)
set_option maxRecDepth 20000 in
theorem law12_1 : ∀ w ∈ ([Cond.code yL_known cL_known 1 (some .boolean)] : List Cond), w ∈ lw_tbl := fun w hw => by
  obtain rfl := List.mem_singleton.mp hw
  exact List.mem_of_getElem? (i := 484) rfl
set_option maxRecDepth 20000 in
theorem law12_2 : ∀ w ∈ ([Cond.methodLink RL 152 yL_refused, Cond.static yL_refused] : List Cond), w ∈ lw_tbl := mem_r _ [366, 367] (by decide +kernel)
set_option maxRecDepth 20000 in
theorem law12_3 : ∀ w ∈ ([Cond.code yL_refused cL_refused 4 (some .boolean)] : List Cond), w ∈ lw_tbl := fun w hw => by
  obtain rfl := List.mem_singleton.mp hw
  exact List.mem_of_getElem? (i := 368) rfl
set_option maxRecDepth 20000 in
theorem law12_4 : ∀ w ∈ ([Cond.constant RL 36 (100001), Cond.methodLink RL 29 yL_state, Cond.static yL_state, Cond.code yL_state cL_state 4 (some .long), Cond.constantLong RL 11 (9), Cond.methodLink RL 19 yL_mixed, Cond.static yL_mixed, Cond.code yL_mixed cL_mixed 4 (some .long), Cond.constantLong RL 9 (31), Cond.methodLink RL 33 yX4_set, Cond.instanceMethod yX4_set, Cond.selects RX4 yX4_set yX4_set, Cond.code yX4_set cX4_set 4 (some .int)] : List Cond), w ∈ lw_tbl := mem_r _ [369, 347, 348, 349, 350, 351, 352, 353, 354, 146, 147, 148, 149] (by decide +kernel)
theorem wsL_law_r12_in : ∀ w ∈ wsL_law_r12, w ∈ lw_tbl := (mem_app law12_0 (mem_app law12_1 (mem_app law12_2 (mem_app law12_3 law12_4))))
set_option maxRecDepth 20000 in
theorem wsL_law_r13_in : ∀ w ∈ wsL_law_r13, w ∈ lw_tbl := mem_r wsL_law_r13 [150, 152, 169, 170, 171, 172, 173, 205, 206, 207, 208, 224, 225, 226, 227, 228, 229, 230, 231, 232, 233, 235, 3, 236] (by decide +kernel)
set_option maxRecDepth 20000 in
theorem wsL_law_r14_in : ∀ w ∈ wsL_law_r14, w ∈ lw_tbl := mem_r wsL_law_r14 [237, 238, 240, 4, 241, 217, 218, 219, 242, 214, 215, 216, 243, 245, 5, 246, 251, 253, 6, 254, 255, 257, 7, 258] (by decide +kernel)
set_option maxRecDepth 20000 in
theorem wsL_law_r15_in : ∀ w ∈ wsL_law_r15, w ∈ lw_tbl := mem_r wsL_law_r15 [259, 261, 8, 262, 263, 265, 9, 266, 267, 271, 273, 10, 274, 196, 197, 198, 199, 204, 209, 210, 211, 212, 213, 370] (by decide +kernel)
set_option maxRecDepth 20000 in
theorem wsL_law_r16_in : ∀ w ∈ wsL_law_r16, w ∈ lw_tbl := mem_r wsL_law_r16 [371, 372, 373, 374, 375, 376, 377, 378, 379, 380, 381, 382, 383, 384, 385, 386, 387, 388, 389, 390, 391, 392, 393, 394] (by decide +kernel)
set_option maxRecDepth 20000 in
theorem wsL_law_r17_in : ∀ w ∈ wsL_law_r17, w ∈ lw_tbl := mem_r wsL_law_r17 [395, 396, 397, 398, 399, 400, 401, 402, 403, 405, 11, 406, 220, 221, 222, 223, 275, 276, 277, 278, 279, 280, 281, 282] (by decide +kernel)
set_option maxRecDepth 20000 in
theorem wsL_law_r18_in : ∀ w ∈ wsL_law_r18, w ∈ lw_tbl := mem_r wsL_law_r18 [343, 344, 345, 346, 339, 340, 341, 342] (by decide +kernel)
set_option maxRecDepth 20000 in
theorem wsX40_mm : ∀ w ∈ wsX40, w ∈ lw_tbl := by decide +kernel
set_option maxRecDepth 20000 in
theorem wsX00_mm : ∀ w ∈ wsX00, w ∈ lw_tbl := by decide +kernel
set_option maxRecDepth 20000 in
theorem wsX20_mm : ∀ w ∈ wsX20, w ∈ lw_tbl := by decide +kernel
set_option maxRecDepth 20000 in
theorem wsX10_mm : ∀ w ∈ wsX10, w ∈ lw_tbl := by decide +kernel
theorem wsL_law_in : ∀ w ∈ wsL_law, w ∈ lw_tbl := mem_app (mem_app (mem_app (mem_app (mem_app (mem_app wsL_law_r1_in (mem_app wsL_law_r2_in (mem_app wsL_law_r3_in (mem_app wsL_law_r4_in (mem_app wsL_law_r5_in (mem_app wsL_law_r6_in (mem_app wsL_law_r7_in (mem_app wsL_law_r8_in (mem_app wsL_law_r9_in (mem_app wsL_law_r10_in (mem_app wsL_law_r11_in (mem_app wsL_law_r12_in (mem_app wsL_law_r13_in (mem_app wsL_law_r14_in (mem_app wsL_law_r15_in (mem_app wsL_law_r16_in (mem_app wsL_law_r17_in (wsL_law_r18_in)))))))))))))))))) wsX40_mm) wsX00_mm) wsX20_mm) wsX10_mm) (fun w h => absurd h List.not_mem_nil)
