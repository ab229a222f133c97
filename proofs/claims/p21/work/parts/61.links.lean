theorem inlX0 : ∀ w ∈ wsX00, w ∈ wsL_law := fun _ h => List.mem_append_left _ (List.mem_append_left _ (List.mem_append_left _ (List.mem_append_left _ (List.mem_append_left _ (List.mem_append_left _ (List.mem_append_right _ h))))))
theorem inlX1 : ∀ w ∈ wsX10, w ∈ wsL_law := fun _ h => List.mem_append_left _ (List.mem_append_left _ (List.mem_append_left _ (List.mem_append_left _ (List.mem_append_right _ h))))
theorem inlX2 : ∀ w ∈ wsX20, w ∈ wsL_law := fun _ h => List.mem_append_left _ (List.mem_append_left _ (List.mem_append_left _ (List.mem_append_left _ (List.mem_append_left _ (List.mem_append_right _ h)))))
theorem inlX3 : ∀ w ∈ wsX30, w ∈ wsL_law := fun _ h => List.mem_append_left _ (List.mem_append_left _ (List.mem_append_left _ (List.mem_append_left _ (List.mem_append_left _ (List.mem_append_left _ (List.mem_append_left _ (List.mem_append_right _ h)))))))
theorem inlX4 : ∀ w ∈ wsX40, w ∈ wsL_law := fun _ h => List.mem_append_left _ (List.mem_append_left _ (List.mem_append_left _ (List.mem_append_left _ (List.mem_append_left _ (List.mem_append_left _ (List.mem_append_left _ (List.mem_append_left _ (List.mem_append_left _ (List.mem_append_right _ h)))))))))
theorem inlX5 : ∀ w ∈ wsX50, w ∈ wsL_law := fun _ h => List.mem_append_left _ (List.mem_append_left _ (List.mem_append_left _ (List.mem_append_left _ (List.mem_append_left _ (List.mem_append_left _ (List.mem_append_left _ (List.mem_append_left _ (List.mem_append_right _ h))))))))
theorem inlX6 : ∀ w ∈ wsX60, w ∈ wsL_law := fun _ h => List.mem_append_left _ (List.mem_append_left _ (List.mem_append_left _ (List.mem_append_left _ (List.mem_append_left _ (List.mem_append_left _ (List.mem_append_left _ (List.mem_append_left _ (List.mem_append_left _ (List.mem_append_left _ (List.mem_append_right _ h))))))))))
set_option maxRecDepth 20000 in
theorem ggL_law_X6_init : GoodIn wsL_law wsX6_init := goodIn_r _ [6, 7, 8, 9, 10, 11, 12, 13, 14, 15, 16, 17, 18, 19, 20, 21, 22, 23, 24, 25, 26, 27, 28, 29, 30, 31, 32, 33, 34, 35, 3, 36, 37, 38, 39, 40, 41, 42, 43, 44, 45, 46, 47, 48, 49, 50, 51, 52, 53, 54, 55, 56, 57, 58, 59, 60, 61, 62, 63, 64, 65, 66, 67, 68, 69, 70, 71, 72, 73, 74, 75, 76, 77, 78, 79, 80, 81, 82, 83, 84, 85, 86, 87, 478, 479, 480, 481, 482, 483, 484, 485, 486, 469, 470, 471, 472, 473, 474, 475, 476, 477, 487, 488, 489, 490, 491, 492, 493, 494, 495, 496, 497, 498, 499, 500, 501, 502, 503, 504, 505, 506] (by decide +kernel) (by decide +kernel)
set_option maxRecDepth 20000 in
theorem gL_law_X6_init : GoodIn wsL_law (wsX6_init) := ggL_law_X6_init
set_option maxRecDepth 20000 in
theorem ggL_law_L_types : GoodIn wsL_law wsL_types := goodIn_ca (goodIn_ca (goodIn_r _ [91, 92, 93, 94, 95, 2, 96, 97, 98, 99, 100, 17, 101, 102, 103, 16, 104, 105, 106, 107, 108, 109, 110, 111, 55, 54, 469, 470, 471, 472, 473, 474, 475, 476, 477, 487, 488, 489] (by decide +kernel) (by decide +kernel)) (goodIn_sub (fun _ h => List.mem_append_left _ (List.mem_append_left _ (List.mem_append_right _ h))) (by decide +kernel))) (goodIn_sub (fun _ h => List.mem_append_left _ (List.mem_append_right _ h)) (by decide +kernel))
set_option maxRecDepth 20000 in
theorem gL_law_L_types : GoodIn wsL_law (va_wsS RL 89 yL_types wsL_types) := goodIn_app (goodIn_of _ (by decide +kernel)) ggL_law_L_types
set_option maxRecDepth 20000 in
theorem ggL_law_X6_input : GoodIn wsL_law wsX6_input := goodIn_ca (goodIn_ca (goodIn_r _ [115, 13, 116, 117, 118, 119, 120, 2, 121, 122, 123, 124, 125, 126, 97, 98, 127, 128, 129, 12, 130, 44, 131, 132, 133, 134, 42, 43, 469, 470, 471, 472, 473, 474, 475, 476, 477, 478, 479, 480, 481, 482, 483, 484, 485, 486] (by decide +kernel) (by decide +kernel)) (goodIn_sub (fun _ h => List.mem_append_right _ h) (by decide +kernel))) (goodIn_sub (fun _ h => List.mem_append_left _ (List.mem_append_left _ (List.mem_append_right _ h))) (by decide +kernel))
set_option maxRecDepth 20000 in
theorem gL_law_X6_input : GoodIn wsL_law (wsV RL 45 RX6 yX6_input wsX6_input) := goodIn_app (goodIn_of _ (by decide +kernel)) ggL_law_X6_input
set_option maxRecDepth 20000 in
theorem ggL_law_L_draw : GoodIn wsL_law wsL_draw := goodIn_r _ [137, 138, 139, 140] (by decide +kernel) (by decide +kernel)
set_option maxRecDepth 20000 in
theorem gL_law_L_draw : GoodIn wsL_law (va_wsS RL 125 yL_draw wsL_draw) := goodIn_app (goodIn_of _ (by decide +kernel)) ggL_law_L_draw
theorem gm_L_step : Cond.code yL_step cL_step 20 (some .boolean) ∈ wsL_law := List.mem_append_left _ (List.mem_append_left _ (List.mem_append_left _ (List.mem_append_left _ (List.mem_append_left _ (List.mem_append_left _ (List.mem_append_left _ (List.mem_append_left _ (List.mem_append_left _ (List.mem_append_left _ (List.mem_append_left _ (List.mem_append_right _ (List.mem_append_right _ (List.mem_append_right _ (List.mem_append_right _ (List.mem_append_right _ (List.mem_append_left _ (List.mem_of_getElem? (l := wsL_law0_r6) (i := 23) rfl)))))))))))))))))
theorem gc_L_step_0 : GoodIn wsL_law [Cond.code yL_step cL_step 20 (some .boolean)] := goodIn_sub (fun w h => by rw [List.mem_singleton.mp h]; exact gm_L_step) rfl
set_option maxRecDepth 20000 in
theorem gc_L_step_1 : GoodIn wsL_law wsL_step_r1 := goodIn_r _ [144, 145, 146, 147, 148, 2, 149, 13, 119, 120, 121, 122, 123, 124, 125, 126, 97, 98, 150, 151, 152, 12, 153, 40] (by decide +kernel) (by decide +kernel)
set_option maxRecDepth 20000 in
theorem gc_L_step_2 : GoodIn wsL_law wsL_step_r2 := goodIn_r _ [42, 43, 44, 41, 154, 155, 156, 112, 113, 114, 115, 116, 117, 118, 127, 128, 129, 130, 131, 132, 133, 134, 157, 158] (by decide +kernel) (by decide +kernel)
set_option maxRecDepth 20000 in
theorem gc_L_step_3 : GoodIn wsL_law wsL_step_r3 := goodIn_r _ [90, 159, 92, 160, 161, 162, 163, 99, 100, 164, 165, 166, 167, 168, 46, 169, 170, 171, 172, 173, 174, 175, 176, 177] (by decide +kernel) (by decide +kernel)
set_option maxRecDepth 20000 in
theorem gc_L_step_4 : GoodIn wsL_law wsL_step_r4 := goodIn_r _ [178, 179, 180, 181, 182, 183, 184, 185, 186, 19, 187, 188, 189, 22, 190, 191, 192, 193, 194, 195, 196, 197, 198, 199] (by decide +kernel) (by decide +kernel)
set_option maxRecDepth 20000 in
theorem gc_L_step_5 : GoodIn wsL_law wsL_step_r5 := goodIn_r _ [200, 201, 68, 67, 69, 202, 203, 204, 205, 61, 62, 60, 206, 207, 208, 209, 63, 210, 211, 212, 213, 214, 215, 216] (by decide +kernel) (by decide +kernel)
set_option maxRecDepth 20000 in
theorem gc_L_step_6 : GoodIn wsL_law wsL_step_r6 := goodIn_r _ [217, 218, 219, 220, 221, 222, 223, 224, 225, 49, 226, 227, 228, 229, 230, 231, 88, 89, 91, 93, 94, 95, 96, 17] (by decide +kernel) (by decide +kernel)
set_option maxRecDepth 20000 in
theorem gc_L_step_7 : GoodIn wsL_law wsL_step_r7 := goodIn_r _ [101, 102, 103, 16, 104, 105, 106, 107, 108, 109, 110, 111, 55, 54, 232, 233, 234, 235, 236, 237, 238, 239, 240, 241] (by decide +kernel) (by decide +kernel)
set_option maxRecDepth 20000 in
theorem gc_L_step_8 : GoodIn wsL_law wsL_step_r8 := goodIn_r _ [242, 243, 244, 245, 20, 23, 18, 21, 246, 247, 248, 249, 250, 56, 251, 252, 253, 254, 255, 256, 257, 258, 259, 260] (by decide +kernel) (by decide +kernel)
set_option maxRecDepth 20000 in
theorem gc_L_step_9 : GoodIn wsL_law wsL_step_r9 := goodIn_r _ [261, 262, 263, 264, 265, 266, 267, 268, 269, 270, 271, 272, 273, 274, 275, 276, 277, 278, 279, 280, 281, 282, 283, 284] (by decide +kernel) (by decide +kernel)
set_option maxRecDepth 20000 in
theorem gc_L_step_10 : GoodIn wsL_law wsL_step_r10 := goodIn_r _ [285, 286, 287, 288, 289, 290, 291, 292, 293, 294, 57, 58, 59, 8, 9, 3, 64, 65, 66, 295, 296, 297, 298, 299] (by decide +kernel) (by decide +kernel)
set_option maxRecDepth 20000 in
theorem gc_L_step_11 : GoodIn wsL_law wsL_step_r11 := goodIn_r _ [300, 301, 302, 303, 304, 305, 306, 307, 308, 309, 310, 311, 312, 313, 314, 315, 316, 31, 317, 318, 319, 320, 30, 321] (by decide +kernel) (by decide +kernel)
set_option maxRecDepth 20000 in
theorem gc_L_step_12 : GoodIn wsL_law wsL_step_r12 := goodIn_r _ [83, 81, 82, 322, 323, 324, 325, 326, 327, 328, 329, 330, 331, 332, 333, 334, 335, 336, 337, 338, 339, 35, 340, 341] (by decide +kernel) (by decide +kernel)
set_option maxRecDepth 20000 in
theorem gc_L_step_13 : GoodIn wsL_law wsL_step_r13 := goodIn_r _ [342, 343, 344, 27, 36, 345, 346, 347, 348, 26, 349, 350, 73, 75, 74, 351, 352, 353, 354, 355, 356, 357, 358, 359] (by decide +kernel) (by decide +kernel)
set_option maxRecDepth 20000 in
theorem gc_L_step_14 : GoodIn wsL_law wsL_step_r14 := goodIn_r _ [360, 361, 362, 363, 364, 365, 366, 367, 368, 369, 370, 371, 372, 373, 374, 76, 375, 376, 377, 378, 379, 380, 381, 382] (by decide +kernel) (by decide +kernel)
set_option maxRecDepth 20000 in
theorem gc_L_step_15 : GoodIn wsL_law wsL_step_r15 := goodIn_r _ [383, 384, 385, 386, 387, 388, 389, 390, 391, 392, 393, 394, 395, 396, 397, 398, 399, 400, 401, 402, 403, 404, 405, 406] (by decide +kernel) (by decide +kernel)
set_option maxRecDepth 20000 in
theorem gc_L_step_16 : GoodIn wsL_law wsL_step_r16 := goodIn_r _ [407, 408, 409, 410, 411, 412, 413, 414, 415, 34, 416, 87, 417, 418, 419, 420, 421, 422, 423, 424, 425] (by decide +kernel) (by decide +kernel)
theorem ggL_law_L_step : GoodIn wsL_law wsL_step := goodIn_app gc_L_step_0 (goodIn_app (goodIn_app (goodIn_app (goodIn_app (goodIn_app (goodIn_app (goodIn_app (goodIn_app (goodIn_app (goodIn_app (goodIn_app gc_L_step_1 (goodIn_app gc_L_step_2 (goodIn_app gc_L_step_3 (goodIn_app gc_L_step_4 (goodIn_app gc_L_step_5 (goodIn_app gc_L_step_6 (goodIn_app gc_L_step_7 (goodIn_app gc_L_step_8 (goodIn_app gc_L_step_9 (goodIn_app gc_L_step_10 (goodIn_app gc_L_step_11 (goodIn_app gc_L_step_12 (goodIn_app gc_L_step_13 (goodIn_app gc_L_step_14 (goodIn_app gc_L_step_15 gc_L_step_16))))))))))))))) (goodIn_sub inlX6 (by decide +kernel))) (goodIn_sub inlX4 (by decide +kernel))) (goodIn_sub inlX3 (by decide +kernel))) (goodIn_sub inlX5 (by decide +kernel))) (goodIn_sub inlX2 (by decide +kernel))) (goodIn_sub inlX1 (by decide +kernel))) (goodIn_sub inlX0 (by decide +kernel))) (goodIn_sub (fun _ h => List.mem_append_right _ h) (by decide +kernel))) (goodIn_sub (fun _ h => List.mem_append_left _ (List.mem_append_left _ (List.mem_append_right _ h))) (by decide +kernel))) (goodIn_sub (fun _ h => List.mem_append_left _ (List.mem_append_right _ h)) (by decide +kernel)))
set_option maxRecDepth 20000 in
theorem gL_law_L_step : GoodIn wsL_law (va_wsS RL 128 yL_step wsL_step) := goodIn_app (goodIn_of _ (by decide +kernel)) ggL_law_L_step
theorem gm_L_isBudget : Cond.code yL_isBudget cL_isBudget 17 (some .boolean) ∈ wsL_law := List.mem_append_left _ (List.mem_append_left _ (List.mem_append_left _ (List.mem_append_left _ (List.mem_append_left _ (List.mem_append_left _ (List.mem_append_left _ (List.mem_append_left _ (List.mem_append_left _ (List.mem_append_left _ (List.mem_append_left _ (List.mem_append_right _ (List.mem_append_right _ (List.mem_append_right _ (List.mem_append_right _ (List.mem_append_right _ (List.mem_append_right _ (List.mem_append_right _ (List.mem_append_right _ (List.mem_append_right _ (List.mem_append_right _ (List.mem_append_right _ (List.mem_append_right _ (List.mem_append_right _ (List.mem_append_right _ (List.mem_append_right _ (List.mem_append_right _ (List.mem_append_right _ (List.mem_append_left _ (List.mem_of_getElem? (l := wsL_law0_r18) (i := 20) rfl)))))))))))))))))))))))))))))
theorem gc_L_isBudget_0 : GoodIn wsL_law [Cond.code yL_isBudget cL_isBudget 17 (some .boolean)] := goodIn_sub (fun w h => by rw [List.mem_singleton.mp h]; exact gm_L_isBudget) rfl
set_option maxRecDepth 20000 in
theorem gc_L_isBudget_1 : GoodIn wsL_law wsL_isBudget_r1 := goodIn_r _ [429, 145, 430, 431, 432, 433, 434, 435, 2, 436, 13, 116, 214, 215, 216, 217, 122, 123, 19, 119, 120, 121, 437, 438] (by decide +kernel) (by decide +kernel)
set_option maxRecDepth 20000 in
theorem gc_L_isBudget_2 : GoodIn wsL_law wsL_isBudget_r2 := goodIn_r _ [439, 22, 440, 68, 66, 69, 358, 300, 301, 302, 65, 303, 304, 305, 306, 61, 62, 60, 307, 308, 309, 441, 442, 443] (by decide +kernel) (by decide +kernel)
set_option maxRecDepth 20000 in
theorem gc_L_isBudget_3 : GoodIn wsL_law wsL_isBudget_r3 := goodIn_r _ [444, 367, 368, 369, 370, 445, 446, 447, 448, 27, 449, 450, 355, 356, 357, 359, 360, 361, 362, 363, 364, 365, 366, 451] (by decide +kernel) (by decide +kernel)
set_option maxRecDepth 20000 in
theorem gc_L_isBudget_4 : GoodIn wsL_law wsL_isBudget_r4 := goodIn_r _ [452, 453, 454, 455, 346, 347, 348, 26, 349, 350, 73, 75, 74, 351, 352, 353, 354, 371, 372, 373, 374, 76, 375, 128] (by decide +kernel) (by decide +kernel)
set_option maxRecDepth 20000 in
theorem gc_L_isBudget_5 : GoodIn wsL_law wsL_isBudget_r5 := goodIn_r _ [129, 12, 130, 44, 376, 377, 378, 379, 380, 456, 112, 113, 114, 115, 117, 118, 124, 125, 126, 97, 98, 127, 131, 132] (by decide +kernel) (by decide +kernel)
set_option maxRecDepth 20000 in
theorem gc_L_isBudget_6 : GoodIn wsL_law wsL_isBudget_r6 := goodIn_r _ [133, 134, 42, 43, 218, 219, 220, 221, 222, 223, 224, 225, 49, 418, 419, 420, 421, 422, 31, 423, 387, 388, 389, 385] (by decide +kernel) (by decide +kernel)
set_option maxRecDepth 20000 in
theorem gc_L_isBudget_7 : GoodIn wsL_law wsL_isBudget_r7 := goodIn_r _ [390, 424, 397, 398, 399, 400, 425, 392, 393, 394, 395, 396, 401, 402, 403, 30, 404, 83, 81, 82, 381, 382, 383, 384] (by decide +kernel) (by decide +kernel)
set_option maxRecDepth 20000 in
theorem gc_L_isBudget_8 : GoodIn wsL_law wsL_isBudget_r8 := goodIn_r _ [386, 391, 457, 458, 459, 460, 461, 462, 463, 464, 465, 466, 467, 468, 210, 211, 212, 213, 181, 182, 187, 188, 189, 190] (by decide +kernel) (by decide +kernel)
set_option maxRecDepth 20000 in
theorem gc_L_isBudget_9 : GoodIn wsL_law wsL_isBudget_r9 := goodIn_r _ [191, 192, 193, 194, 195, 196, 197, 198, 199, 200, 201, 67, 202, 203, 204, 205, 206, 207, 208, 209, 63] (by decide +kernel) (by decide +kernel)
theorem ggL_law_L_isBudget : GoodIn wsL_law wsL_isBudget := goodIn_app gc_L_isBudget_0 (goodIn_app (goodIn_app (goodIn_app (goodIn_app (goodIn_app (goodIn_app (goodIn_app (goodIn_app gc_L_isBudget_1 (goodIn_app gc_L_isBudget_2 (goodIn_app gc_L_isBudget_3 (goodIn_app gc_L_isBudget_4 (goodIn_app gc_L_isBudget_5 (goodIn_app gc_L_isBudget_6 (goodIn_app gc_L_isBudget_7 (goodIn_app gc_L_isBudget_8 gc_L_isBudget_9)))))))) (goodIn_sub inlX6 (by decide +kernel))) (goodIn_sub inlX4 (by decide +kernel))) (goodIn_sub inlX3 (by decide +kernel))) (goodIn_sub inlX0 (by decide +kernel))) (goodIn_sub inlX2 (by decide +kernel))) (goodIn_sub (fun _ h => List.mem_append_right _ h) (by decide +kernel))) (goodIn_sub (fun _ h => List.mem_append_left _ (List.mem_append_left _ (List.mem_append_right _ h))) (by decide +kernel)))
set_option maxRecDepth 20000 in
theorem gL_law_L_isBudget : GoodIn wsL_law (va_wsS RL 132 yL_isBudget wsL_isBudget) := goodIn_app (goodIn_of _ (by decide +kernel)) ggL_law_L_isBudget
