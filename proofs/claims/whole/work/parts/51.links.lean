set_option maxRecDepth 20000 in
theorem ggL_law_X6_init : GoodIn wsL_law wsX6_init := goodIn_r _ [10, 11, 12, 13, 14, 15, 16, 17, 18, 19, 20, 21, 22, 23, 24, 25, 26, 27, 28, 29, 30, 31, 32, 33, 34, 35, 36, 37, 38, 39, 40, 41, 42, 43, 44, 45, 46, 47, 48, 49, 50, 51, 52, 53, 54, 55, 56, 57, 58, 59, 60, 61, 62, 63, 64, 65, 66, 67, 68, 6, 69, 70, 71, 72, 73, 74, 75, 76, 77, 78, 79, 80, 81, 82, 83, 84, 85, 86, 87, 88, 89, 90, 91, 791, 792, 793, 794, 795, 796, 797, 798, 799, 745, 746, 747, 748, 749, 750, 751, 752, 753, 800, 801, 802, 803, 804, 805, 806, 807, 808, 809, 810, 811, 812, 813, 814, 815, 816, 817, 818, 819] (by decide +kernel) (by decide +kernel)
set_option maxRecDepth 20000 in
theorem gL_law_X6_init : GoodIn wsL_law (wsX6_init) := ggL_law_X6_init
set_option maxRecDepth 20000 in
theorem ggL_law_X7_init : GoodIn wsL_law wsX7_init := goodIn_r _ [94, 95, 12, 13, 40, 96, 97, 98, 99, 100, 101, 102, 103, 104, 105, 106, 107, 108, 109, 110, 111, 112, 113, 114, 115, 116, 117, 118, 6, 119, 120, 121, 122, 123, 124, 125, 126, 127, 754, 755, 756, 757, 758, 759, 760, 761, 762, 763, 764, 765, 766, 767, 768, 769, 770, 771, 772, 773, 774, 775, 776, 777, 778, 779, 780, 781, 782, 783, 784, 785, 786, 787, 788, 789, 790] (by decide +kernel) (by decide +kernel)
set_option maxRecDepth 20000 in
theorem gL_law_X7_init : GoodIn wsL_law (wsX7_init) := ggL_law_X7_init
set_option maxRecDepth 20000 in
theorem ggL_law_L_shape : GoodIn wsL_law wsL_shape := goodIn_ca (goodIn_ca (goodIn_r _ [131, 132, 133, 134, 135, 136, 2, 137, 17, 138, 139, 140, 141, 142, 143, 144, 145, 146, 147, 148, 149, 150, 16, 151, 45, 47, 48, 49, 46, 152, 153, 154, 745, 746, 747, 748, 749, 750, 751, 752, 753, 791, 792, 793, 794, 795, 796, 797, 798, 799] (by decide +kernel) (by decide +kernel)) (goodIn_sub (fun _ h => List.mem_append_left _ (List.mem_append_left _ (List.mem_append_right _ h))) (by decide +kernel))) (goodIn_sub (fun _ h => List.mem_append_left _ (List.mem_append_right _ h)) (by decide +kernel))
set_option maxRecDepth 20000 in
theorem gL_law_L_shape : GoodIn wsL_law (va_wsS RL 82 yL_shape wsL_shape) := goodIn_app (goodIn_of _ (by decide +kernel)) ggL_law_L_shape
set_option maxRecDepth 20000 in
theorem ggL_law_X7_shape : GoodIn wsL_law wsX7_shape := goodIn_r _ [158, 96, 98, 99, 100, 102, 159, 160, 5, 161, 162, 163, 164, 165, 166, 167, 168, 169, 754, 755, 756, 757, 758, 759, 760, 761, 762, 763, 764, 765, 766, 767, 768, 769, 770, 771, 772, 773, 774, 775, 776, 777, 778, 779, 780, 781, 782, 783, 784, 785, 786, 787, 788, 789, 790] (by decide +kernel) (by decide +kernel)
set_option maxRecDepth 20000 in
theorem gL_law_X7_shape : GoodIn wsL_law (wsV RL 87 RX7 yX7_shape wsX7_shape) := goodIn_app (goodIn_of _ (by decide +kernel)) ggL_law_X7_shape
set_option maxRecDepth 20000 in
theorem ggL_law_X7_thrown : GoodIn wsL_law wsX7_thrown := goodIn_r _ [173, 169, 754, 755, 756, 757, 758, 759, 760, 761, 762, 763, 764, 765, 766, 767, 768, 769, 770, 771, 772, 773, 774, 775, 776, 777, 778, 779, 780, 781, 782, 783, 784, 785, 786, 787, 788, 789, 790] (by decide +kernel) (by decide +kernel)
set_option maxRecDepth 20000 in
theorem gL_law_X7_thrown : GoodIn wsL_law (wsV RL 88 RX7 yX7_thrown wsX7_thrown) := goodIn_app (goodIn_of _ (by decide +kernel)) ggL_law_X7_thrown
set_option maxRecDepth 20000 in
theorem ggL_law_L_read : GoodIn wsL_law wsL_read := goodIn_ca (goodIn_ca (goodIn_ca (goodIn_r _ [176, 132, 133, 177, 178, 179, 180, 2, 181, 182, 183, 17, 184, 138, 139, 140, 141, 142, 143, 144, 145, 146, 147, 185, 186, 187, 16, 188, 49, 51, 47, 46, 189, 190, 191, 192, 45, 193, 194, 195, 196, 745, 746, 747, 748, 749, 750, 751, 752, 753, 791, 792, 793, 794, 795, 796, 797, 798, 799] (by decide +kernel) (by decide +kernel)) (goodIn_sub (fun _ h => List.mem_append_right _ h) (by decide +kernel))) (goodIn_sub (fun _ h => List.mem_append_left _ (List.mem_append_left _ (List.mem_append_right _ h))) (by decide +kernel))) (goodIn_sub (fun _ h => List.mem_append_left _ (List.mem_append_right _ h)) (by decide +kernel))
set_option maxRecDepth 20000 in
theorem gL_law_L_read : GoodIn wsL_law (va_wsS RL 92 yL_read wsL_read) := goodIn_app (goodIn_of _ (by decide +kernel)) ggL_law_L_read
set_option maxRecDepth 20000 in
theorem ggL_law_X7_read : GoodIn wsL_law wsX7_read := goodIn_r _ [200, 100, 98, 99, 101, 96, 102, 162, 163, 5, 164, 159, 160, 161, 165, 166, 167, 168, 169, 201, 202, 203, 754, 755, 756, 757, 758, 759, 760, 761, 762, 763, 764, 765, 766, 767, 768, 769, 770, 771, 772, 773, 774, 775, 776, 777, 778, 779, 780, 781, 782, 783, 784, 785, 786, 787, 788, 789, 790] (by decide +kernel) (by decide +kernel)
set_option maxRecDepth 20000 in
theorem gL_law_X7_read : GoodIn wsL_law (wsV RL 95 RX7 yX7_read wsX7_read) := goodIn_app (goodIn_of _ (by decide +kernel)) ggL_law_X7_read
set_option maxRecDepth 20000 in
theorem ggL_law_L_unit : GoodIn wsL_law wsL_unit := goodIn_ca (goodIn_ca (goodIn_r _ [206, 132, 133, 207, 208, 209, 2, 210, 17, 211, 212, 138, 139, 140, 141, 142, 143, 144, 145, 146, 147, 213, 214, 215, 216, 23, 217, 218, 219, 26, 220, 221, 222, 223, 224, 225, 226, 227, 228, 229, 230, 231, 72, 71, 73, 232, 233, 234, 235, 66, 67, 65, 236, 237, 238, 239, 68, 745, 746, 747, 748, 749, 750, 751, 752, 753, 791, 792, 793, 794, 795, 796, 797, 798, 799, 803, 804, 805, 806, 807, 808, 809, 810, 811] (by decide +kernel) (by decide +kernel)) (goodIn_sub (fun _ h => List.mem_append_left _ (List.mem_append_left _ (List.mem_append_right _ h))) (by decide +kernel))) (goodIn_sub (fun _ h => List.mem_append_left _ (List.mem_append_right _ h)) (by decide +kernel))
set_option maxRecDepth 20000 in
theorem gL_law_L_unit : GoodIn wsL_law (va_wsS RL 96 yL_unit wsL_unit) := goodIn_app (goodIn_of _ (by decide +kernel)) ggL_law_L_unit
set_option maxRecDepth 20000 in
theorem ggL_law_X7_unit : GoodIn wsL_law wsX7_unit := goodIn_r _ [243, 97, 244, 162, 163, 5, 164, 159, 160, 161, 165, 166, 167, 168, 169, 245, 246, 247, 248, 110, 121, 112, 113, 111, 249, 250, 251, 252, 105, 107, 108, 109, 754, 755, 756, 757, 758, 759, 760, 761, 762, 763, 764, 765, 766, 767, 768, 769, 770, 771, 772, 773, 774, 775, 776, 777, 778, 779, 780, 781, 782, 783, 784, 785, 786, 787, 788, 789, 790] (by decide +kernel) (by decide +kernel)
set_option maxRecDepth 20000 in
theorem gL_law_X7_unit : GoodIn wsL_law (wsV RL 99 RX7 yX7_unit wsX7_unit) := goodIn_app (goodIn_of _ (by decide +kernel)) ggL_law_X7_unit
set_option maxRecDepth 20000 in
theorem ggL_law_L_together : GoodIn wsL_law wsL_together := goodIn_ca (goodIn_ca (goodIn_r _ [255, 132, 133, 256, 257, 258, 2, 259, 146, 147, 17, 138, 139, 140, 141, 142, 143, 144, 145, 260, 261, 262, 16, 263, 54, 745, 746, 747, 748, 749, 750, 751, 752, 753, 791, 792, 793, 794, 795, 796, 797, 798, 799] (by decide +kernel) (by decide +kernel)) (goodIn_sub (fun _ h => List.mem_append_left _ (List.mem_append_right _ h)) (by decide +kernel))) (goodIn_sub (fun _ h => List.mem_append_left _ (List.mem_append_left _ (List.mem_append_right _ h))) (by decide +kernel))
set_option maxRecDepth 20000 in
theorem gL_law_L_together : GoodIn wsL_law (va_wsS RL 100 yL_together wsL_together) := goodIn_app (goodIn_of _ (by decide +kernel)) ggL_law_L_together
set_option maxRecDepth 20000 in
theorem ggL_law_X7_together : GoodIn wsL_law wsX7_together := goodIn_r _ [267, 103, 162, 163, 5, 164, 159, 160, 161, 165, 166, 167, 168, 169, 754, 755, 756, 757, 758, 759, 760, 761, 762, 763, 764, 765, 766, 767, 768, 769, 770, 771, 772, 773, 774, 775, 776, 777, 778, 779, 780, 781, 782, 783, 784, 785, 786, 787, 788, 789, 790] (by decide +kernel) (by decide +kernel)
set_option maxRecDepth 20000 in
theorem gL_law_X7_together : GoodIn wsL_law (wsV RL 102 RX7 yX7_together wsX7_together) := goodIn_app (goodIn_of _ (by decide +kernel)) ggL_law_X7_together
set_option maxRecDepth 20000 in
theorem ggL_law_L_input : GoodIn wsL_law wsL_input := goodIn_ca (goodIn_ca (goodIn_r _ [270, 132, 133, 271, 272, 273, 2, 274, 17, 275, 276, 277, 138, 139, 140, 141, 142, 143, 144, 145, 146, 147, 278, 279, 280, 16, 281, 49, 282, 283, 284, 285, 47, 48, 745, 746, 747, 748, 749, 750, 751, 752, 753, 791, 792, 793, 794, 795, 796, 797, 798, 799] (by decide +kernel) (by decide +kernel)) (goodIn_sub (fun _ h => List.mem_append_left _ (List.mem_append_left _ (List.mem_append_right _ h))) (by decide +kernel))) (goodIn_sub (fun _ h => List.mem_append_left _ (List.mem_append_right _ h)) (by decide +kernel))
set_option maxRecDepth 20000 in
theorem gL_law_L_input : GoodIn wsL_law (va_wsS RL 103 yL_input wsL_input) := goodIn_app (goodIn_of _ (by decide +kernel)) ggL_law_L_input
set_option maxRecDepth 20000 in
theorem ggL_law_X7_input : GoodIn wsL_law wsX7_input := goodIn_r _ [289, 96, 102, 98, 100, 99, 162, 163, 5, 164, 159, 160, 161, 165, 166, 167, 168, 169, 290, 291, 292, 293, 754, 755, 756, 757, 758, 759, 760, 761, 762, 763, 764, 765, 766, 767, 768, 769, 770, 771, 772, 773, 774, 775, 776, 777, 778, 779, 780, 781, 782, 783, 784, 785, 786, 787, 788, 789, 790] (by decide +kernel) (by decide +kernel)
set_option maxRecDepth 20000 in
theorem gL_law_X7_input : GoodIn wsL_law (wsV RL 105 RX7 yX7_input wsX7_input) := goodIn_app (goodIn_of _ (by decide +kernel)) ggL_law_X7_input
set_option maxRecDepth 20000 in
theorem ggL_law_L_type : GoodIn wsL_law wsL_type := goodIn_ca (goodIn_ca (goodIn_r _ [296, 133, 177, 297, 298, 299, 2, 300, 146, 147, 182, 183, 21, 301, 302, 303, 20, 304, 305, 306, 307, 308, 309, 310, 311, 60, 59, 745, 746, 747, 748, 749, 750, 751, 752, 753, 800, 801, 802] (by decide +kernel) (by decide +kernel)) (goodIn_sub (fun _ h => List.mem_append_left _ (List.mem_append_right _ h)) (by decide +kernel))) (goodIn_sub (fun _ h => List.mem_append_right _ h) (by decide +kernel))
set_option maxRecDepth 20000 in
theorem gL_law_L_type : GoodIn wsL_law (va_wsS RL 108 yL_type wsL_type) := goodIn_app (goodIn_of _ (by decide +kernel)) ggL_law_L_type
set_option maxRecDepth 20000 in
theorem ggL_law_X7_type : GoodIn wsL_law wsX7_type := goodIn_r _ [315, 316, 104, 159, 160, 5, 161, 165, 166, 167, 168, 169, 754, 755, 756, 757, 758, 759, 760, 761, 762, 763, 764, 765, 766, 767, 768, 769, 770, 771, 772, 773, 774, 775, 776, 777, 778, 779, 780, 781, 782, 783, 784, 785, 786, 787, 788, 789, 790] (by decide +kernel) (by decide +kernel)
set_option maxRecDepth 20000 in
theorem gL_law_X7_type : GoodIn wsL_law (wsV RL 111 RX7 yX7_type wsX7_type) := goodIn_app (goodIn_of _ (by decide +kernel)) ggL_law_X7_type
set_option maxRecDepth 20000 in
theorem ggL_law_L_model : GoodIn wsL_law wsL_model := goodIn_ca (goodIn_ca (goodIn_r _ [319, 132, 177, 320, 321, 322, 2, 323, 141, 142, 182, 183, 24, 21, 27, 23, 22, 25, 26, 324, 325, 326, 327, 20, 328, 61, 60, 329, 330, 331, 332, 333, 72, 73, 334, 335, 336, 337, 338, 339, 340, 341, 342, 343, 344, 59, 345, 346, 347, 348, 65, 66, 67, 68, 349, 350, 351, 352, 353, 354, 355, 356, 357, 358, 359, 360, 361, 362, 363, 364, 365, 366, 367, 368, 369, 370, 371, 372, 62, 63, 64, 12, 13, 40, 6, 69, 70, 71, 745, 746, 747, 748, 749, 750, 751, 752, 753, 803, 804, 805, 806, 807, 808, 809, 810, 811, 800, 801, 802] (by decide +kernel) (by decide +kernel)) (goodIn_sub (fun _ h => List.mem_append_left _ (List.mem_append_left _ (List.mem_append_right _ h))) (by decide +kernel))) (goodIn_sub (fun _ h => List.mem_append_right _ h) (by decide +kernel))
set_option maxRecDepth 20000 in
theorem gL_law_L_model : GoodIn wsL_law (va_wsS RL 112 yL_model wsL_model) := goodIn_app (goodIn_of _ (by decide +kernel)) ggL_law_L_model
set_option maxRecDepth 20000 in
theorem ggL_law_X7_model : GoodIn wsL_law wsX7_model := goodIn_r _ [376, 244, 316, 377, 105, 159, 160, 5, 161, 165, 166, 167, 168, 169, 378, 379, 380, 381, 382, 110, 114, 115, 118, 383, 384, 385, 386, 387, 388, 389, 390, 104, 391, 392, 393, 394, 395, 396, 397, 398, 399, 400, 401, 402, 403, 404, 405, 107, 108, 109, 406, 407, 408, 409, 410, 411, 412, 413, 111, 117, 112, 113, 116, 414, 415, 416, 417, 418, 419, 420, 421, 106, 754, 755, 756, 757, 758, 759, 760, 761, 762, 763, 764, 765, 766, 767, 768, 769, 770, 771, 772, 773, 774, 775, 776, 777, 778, 779, 780, 781, 782, 783, 784, 785, 786, 787, 788, 789, 790] (by decide +kernel) (by decide +kernel)
set_option maxRecDepth 20000 in
theorem gL_law_X7_model : GoodIn wsL_law (wsV RL 115 RX7 yX7_model wsX7_model) := goodIn_app (goodIn_of _ (by decide +kernel)) ggL_law_X7_model
set_option maxRecDepth 20000 in
theorem ggL_law_L_disagrees : GoodIn wsL_law wsL_disagrees := goodIn_ca (goodIn_r _ [424, 132, 425, 426, 427, 2, 428, 17, 211, 212, 429, 430, 431, 432, 141, 142, 23, 217, 218, 219, 26, 220, 221, 222, 223, 224, 225, 226, 227, 228, 229, 230, 231, 72, 71, 73, 232, 233, 234, 235, 66, 67, 65, 236, 237, 238, 239, 68, 745, 746, 747, 748, 749, 750, 751, 752, 753, 791, 792, 793, 794, 795, 796, 797, 798, 799, 803, 804, 805, 806, 807, 808, 809, 810, 811] (by decide +kernel) (by decide +kernel)) (goodIn_sub (fun _ h => List.mem_append_left _ (List.mem_append_left _ (List.mem_append_right _ h))) (by decide +kernel))
set_option maxRecDepth 20000 in
theorem gL_law_L_disagrees : GoodIn wsL_law (va_wsS RL 116 yL_disagrees wsL_disagrees) := goodIn_app (goodIn_of _ (by decide +kernel)) ggL_law_L_disagrees
set_option maxRecDepth 20000 in
theorem ggL_law_X7_disagrees : GoodIn wsL_law wsX7_disagrees := goodIn_r _ [436, 437, 438, 439, 5, 440, 244, 159, 160, 161, 165, 166, 167, 168, 169, 245, 246, 247, 248, 110, 121, 112, 113, 111, 249, 250, 251, 252, 105, 107, 97, 108, 109, 754, 755, 756, 757, 758, 759, 760, 761, 762, 763, 764, 765, 766, 767, 768, 769, 770, 771, 772, 773, 774, 775, 776, 777, 778, 779, 780, 781, 782, 783, 784, 785, 786, 787, 788, 789, 790] (by decide +kernel) (by decide +kernel)
set_option maxRecDepth 20000 in
theorem gL_law_X7_disagrees : GoodIn wsL_law (wsV RL 118 RX7 yX7_disagrees wsX7_disagrees) := goodIn_app (goodIn_of _ (by decide +kernel)) ggL_law_X7_disagrees
set_option maxRecDepth 20000 in
theorem ggL_law_L_unitOf : GoodIn wsL_law wsL_unitOf := goodIn_ca (goodIn_r _ [443, 132, 444, 445, 446, 2, 447, 17, 212, 211, 429, 430, 431, 432, 141, 142, 23, 448, 229, 230, 26, 231, 72, 71, 73, 232, 233, 234, 235, 66, 67, 65, 745, 746, 747, 748, 749, 750, 751, 752, 753, 791, 792, 793, 794, 795, 796, 797, 798, 799, 803, 804, 805, 806, 807, 808, 809, 810, 811] (by decide +kernel) (by decide +kernel)) (goodIn_sub (fun _ h => List.mem_append_left _ (List.mem_append_left _ (List.mem_append_right _ h))) (by decide +kernel))
set_option maxRecDepth 20000 in
theorem gL_law_L_unitOf : GoodIn wsL_law (va_wsS RL 119 yL_unitOf wsL_unitOf) := goodIn_app (goodIn_of _ (by decide +kernel)) ggL_law_L_unitOf
set_option maxRecDepth 20000 in
theorem ggL_law_X7_unitOf : GoodIn wsL_law wsX7_unitOf := goodIn_r _ [452, 121, 106, 437, 438, 439, 5, 440, 244, 159, 160, 161, 165, 166, 167, 168, 169, 249, 250, 251, 252, 105, 107, 97, 108, 109, 754, 755, 756, 757, 758, 759, 760, 761, 762, 763, 764, 765, 766, 767, 768, 769, 770, 771, 772, 773, 774, 775, 776, 777, 778, 779, 780, 781, 782, 783, 784, 785, 786, 787, 788, 789, 790] (by decide +kernel) (by decide +kernel)
set_option maxRecDepth 20000 in
theorem gL_law_X7_unitOf : GoodIn wsL_law (wsV RL 122 RX7 yX7_unitOf wsX7_unitOf) := goodIn_app (goodIn_of _ (by decide +kernel)) ggL_law_X7_unitOf
set_option maxRecDepth 20000 in
theorem ggL_law_L_value : GoodIn wsL_law wsL_value := goodIn_ca (goodIn_r _ [455, 132, 456, 457, 458, 2, 459, 17, 275, 429, 430, 431, 432, 141, 142, 23, 460, 461, 462, 26, 463, 72, 69, 73, 464, 465, 466, 467, 66, 67, 65, 468, 469, 470, 745, 746, 747, 748, 749, 750, 751, 752, 753, 791, 792, 793, 794, 795, 796, 797, 798, 799, 803, 804, 805, 806, 807, 808, 809, 810, 811] (by decide +kernel) (by decide +kernel)) (goodIn_sub (fun _ h => List.mem_append_left _ (List.mem_append_left _ (List.mem_append_right _ h))) (by decide +kernel))
set_option maxRecDepth 20000 in
theorem gL_law_L_value : GoodIn wsL_law (va_wsS RL 123 yL_value wsL_value) := goodIn_app (goodIn_of _ (by decide +kernel)) ggL_law_L_value
set_option maxRecDepth 20000 in
theorem ggL_law_X7_value : GoodIn wsL_law wsX7_value := goodIn_r _ [474, 437, 438, 439, 5, 440, 244, 159, 160, 161, 165, 166, 167, 168, 169, 475, 476, 477, 478, 105, 107, 119, 108, 122, 96, 109, 106, 479, 480, 481, 754, 755, 756, 757, 758, 759, 760, 761, 762, 763, 764, 765, 766, 767, 768, 769, 770, 771, 772, 773, 774, 775, 776, 777, 778, 779, 780, 781, 782, 783, 784, 785, 786, 787, 788, 789, 790] (by decide +kernel) (by decide +kernel)
set_option maxRecDepth 20000 in
theorem gL_law_X7_value : GoodIn wsL_law (wsV RL 125 RX7 yX7_value wsX7_value) := goodIn_app (goodIn_of _ (by decide +kernel)) ggL_law_X7_value
set_option maxRecDepth 20000 in
theorem ggL_law_L_sensitivity : GoodIn wsL_law wsL_sensitivity := goodIn_ca (goodIn_r _ [484, 132, 485, 486, 487, 2, 488, 17, 275, 429, 430, 431, 432, 141, 142, 23, 138, 139, 140, 489, 490, 491, 26, 492, 72, 70, 73, 493, 461, 462, 463, 69, 464, 465, 466, 467, 66, 67, 65, 468, 469, 470, 494, 495, 496, 497, 498, 499, 500, 501, 745, 746, 747, 748, 749, 750, 751, 752, 753, 791, 792, 793, 794, 795, 796, 797, 798, 799, 803, 804, 805, 806, 807, 808, 809, 810, 811] (by decide +kernel) (by decide +kernel)) (goodIn_sub (fun _ h => List.mem_append_left _ (List.mem_append_left _ (List.mem_append_right _ h))) (by decide +kernel))
set_option maxRecDepth 20000 in
theorem gL_law_L_sensitivity : GoodIn wsL_law (va_wsS RL 126 yL_sensitivity wsL_sensitivity) := goodIn_app (goodIn_of _ (by decide +kernel)) ggL_law_L_sensitivity
set_option maxRecDepth 20000 in
theorem ggL_law_X7_sensitivity : GoodIn wsL_law wsX7_sensitivity := goodIn_r _ [505, 437, 438, 439, 5, 440, 244, 159, 160, 161, 162, 163, 164, 165, 166, 167, 168, 169, 475, 476, 477, 478, 105, 107, 119, 108, 122, 96, 109, 106, 479, 480, 481, 506, 507, 508, 509, 120, 754, 755, 756, 757, 758, 759, 760, 761, 762, 763, 764, 765, 766, 767, 768, 769, 770, 771, 772, 773, 774, 775, 776, 777, 778, 779, 780, 781, 782, 783, 784, 785, 786, 787, 788, 789, 790] (by decide +kernel) (by decide +kernel)
set_option maxRecDepth 20000 in
theorem gL_law_X7_sensitivity : GoodIn wsL_law (wsV RL 128 RX7 yX7_sensitivity wsX7_sensitivity) := goodIn_app (goodIn_of _ (by decide +kernel)) ggL_law_X7_sensitivity
set_option maxRecDepth 20000 in
theorem ggL_law_L_sensitivityAnew : GoodIn wsL_law wsL_sensitivityAnew := goodIn_ca (goodIn_r _ [512, 132, 513, 514, 515, 2, 516, 17, 275, 31, 517, 429, 430, 431, 432, 141, 142, 23, 138, 139, 140, 518, 519, 520, 26, 521, 70, 73, 72, 65, 66, 493, 461, 462, 463, 69, 464, 465, 466, 467, 67, 468, 469, 470, 522, 523, 524, 525, 526, 527, 528, 529, 498, 499, 500, 501, 745, 746, 747, 748, 749, 750, 751, 752, 753, 791, 792, 793, 794, 795, 796, 797, 798, 799, 812, 813, 814, 815, 803, 804, 805, 806, 807, 808, 809, 810, 811] (by decide +kernel) (by decide +kernel)) (goodIn_sub (fun _ h => List.mem_append_left _ (List.mem_append_left _ (List.mem_append_right _ h))) (by decide +kernel))
set_option maxRecDepth 20000 in
theorem gL_law_L_sensitivityAnew : GoodIn wsL_law (va_wsS RL 129 yL_sensitivityAnew wsL_sensitivityAnew) := goodIn_app (goodIn_of _ (by decide +kernel)) ggL_law_L_sensitivityAnew
set_option maxRecDepth 20000 in
theorem ggL_law_X7_sensitivityAnew : GoodIn wsL_law wsX7_sensitivityAnew := goodIn_r _ [533, 534, 503, 504, 5, 505, 437, 438, 439, 440, 244, 159, 160, 161, 162, 163, 164, 165, 166, 167, 168, 169, 475, 476, 477, 478, 105, 107, 119, 108, 122, 96, 109, 106, 479, 480, 481, 506, 507, 508, 509, 120, 754, 755, 756, 757, 758, 759, 760, 761, 762, 763, 764, 765, 766, 767, 768, 769, 770, 771, 772, 773, 774, 775, 776, 777, 778, 779, 780, 781, 782, 783, 784, 785, 786, 787, 788, 789, 790] (by decide +kernel) (by decide +kernel)
set_option maxRecDepth 20000 in
theorem gL_law_X7_sensitivityAnew : GoodIn wsL_law (wsV RL 131 RX7 yX7_sensitivityAnew wsX7_sensitivityAnew) := goodIn_app (goodIn_of _ (by decide +kernel)) ggL_law_X7_sensitivityAnew
set_option maxRecDepth 20000 in
theorem ggL_law_L_budget : GoodIn wsL_law wsL_budget := goodIn_ca (goodIn_ca (goodIn_r _ [537, 132, 133, 538, 539, 540, 2, 541, 31, 17, 542, 35, 429, 430, 431, 432, 141, 142, 23, 143, 144, 145, 146, 147, 543, 544, 545, 30, 546, 547, 77, 79, 78, 548, 549, 550, 551, 519, 520, 26, 521, 70, 73, 72, 65, 66, 493, 461, 462, 463, 69, 464, 465, 466, 467, 67, 468, 469, 470, 522, 523, 524, 525, 526, 527, 528, 529, 498, 499, 500, 501, 552, 553, 554, 555, 80, 556, 279, 280, 16, 281, 49, 557, 558, 559, 560, 561, 562, 563, 564, 565, 566, 567, 568, 569, 570, 571, 572, 573, 574, 575, 576, 577, 578, 579, 580, 581, 34, 582, 87, 85, 86, 583, 584, 585, 586, 587, 588, 745, 746, 747, 748, 749, 750, 751, 752, 753, 812, 813, 814, 815, 791, 792, 793, 794, 795, 796, 797, 798, 799, 803, 804, 805, 806, 807, 808, 809, 810, 811, 816, 817, 818] (by decide +kernel) (by decide +kernel)) (goodIn_sub (fun _ h => List.mem_append_left _ (List.mem_append_left _ (List.mem_append_right _ h))) (by decide +kernel))) (goodIn_sub (fun _ h => List.mem_append_left _ (List.mem_append_right _ h)) (by decide +kernel))
set_option maxRecDepth 20000 in
theorem gL_law_L_budget : GoodIn wsL_law (va_wsS RL 132 yL_budget wsL_budget) := goodIn_app (goodIn_of _ (by decide +kernel)) ggL_law_L_budget
set_option maxRecDepth 20000 in
theorem ggL_law_X7_budget : GoodIn wsL_law wsX7_budget := goodIn_r _ [592, 437, 438, 439, 5, 440, 244, 159, 160, 161, 165, 166, 167, 168, 169, 593, 594, 595, 596, 123, 475, 476, 477, 478, 105, 107, 119, 108, 122, 96, 109, 106, 479, 480, 481, 506, 507, 508, 509, 120, 597, 598, 599, 600, 601, 103, 602, 603, 604, 605, 102, 606, 607, 608, 609, 610, 611, 612, 613, 614, 615, 616, 617, 618, 290, 291, 292, 293, 98, 100, 619, 620, 621, 622, 623, 624, 625, 626, 627, 628, 629, 630, 631, 124, 125, 126, 632, 633, 634, 635, 754, 755, 756, 757, 758, 759, 760, 761, 762, 763, 764, 765, 766, 767, 768, 769, 770, 771, 772, 773, 774, 775, 776, 777, 778, 779, 780, 781, 782, 783, 784, 785, 786, 787, 788, 789, 790] (by decide +kernel) (by decide +kernel)
set_option maxRecDepth 20000 in
theorem gL_law_X7_budget : GoodIn wsL_law (wsV RL 134 RX7 yX7_budget wsX7_budget) := goodIn_app (goodIn_of _ (by decide +kernel)) ggL_law_X7_budget
set_option maxRecDepth 20000 in
theorem ggL_law_L_contribution : GoodIn wsL_law wsL_contribution := goodIn_ca (goodIn_r _ [638, 132, 639, 640, 641, 2, 642, 31, 17, 643, 429, 430, 431, 432, 141, 142, 23, 138, 139, 140, 543, 544, 545, 30, 546, 547, 77, 79, 78, 548, 549, 550, 551, 519, 520, 26, 521, 70, 73, 72, 65, 66, 493, 461, 462, 463, 69, 464, 465, 466, 467, 67, 468, 469, 470, 522, 523, 524, 525, 526, 527, 528, 529, 498, 499, 500, 501, 552, 553, 554, 555, 80, 556, 279, 280, 16, 281, 49, 557, 558, 559, 560, 561, 644, 745, 746, 747, 748, 749, 750, 751, 752, 753, 812, 813, 814, 815, 791, 792, 793, 794, 795, 796, 797, 798, 799, 803, 804, 805, 806, 807, 808, 809, 810, 811] (by decide +kernel) (by decide +kernel)) (goodIn_sub (fun _ h => List.mem_append_left _ (List.mem_append_left _ (List.mem_append_right _ h))) (by decide +kernel))
set_option maxRecDepth 20000 in
theorem gL_law_L_contribution : GoodIn wsL_law (va_wsS RL 135 yL_contribution wsL_contribution) := goodIn_app (goodIn_of _ (by decide +kernel)) ggL_law_L_contribution
set_option maxRecDepth 20000 in
theorem ggL_law_X7_contribution : GoodIn wsL_law wsX7_contribution := goodIn_r _ [648, 437, 438, 439, 5, 440, 244, 159, 160, 161, 162, 163, 164, 165, 166, 167, 168, 169, 593, 594, 595, 596, 123, 475, 476, 477, 478, 105, 107, 119, 108, 122, 96, 109, 106, 479, 480, 481, 506, 507, 508, 509, 120, 597, 598, 599, 600, 601, 103, 602, 603, 604, 605, 102, 619, 620, 621, 622, 623, 754, 755, 756, 757, 758, 759, 760, 761, 762, 763, 764, 765, 766, 767, 768, 769, 770, 771, 772, 773, 774, 775, 776, 777, 778, 779, 780, 781, 782, 783, 784, 785, 786, 787, 788, 789, 790] (by decide +kernel) (by decide +kernel)
set_option maxRecDepth 20000 in
theorem gL_law_X7_contribution : GoodIn wsL_law (wsV RL 138 RX7 yX7_contribution wsX7_contribution) := goodIn_app (goodIn_of _ (by decide +kernel)) ggL_law_X7_contribution
set_option maxRecDepth 20000 in
theorem ggL_law_L_ranked : GoodIn wsL_law wsL_ranked := goodIn_ca (goodIn_r _ [651, 132, 652, 653, 654, 2, 655, 141, 142, 31, 17, 429, 430, 431, 432, 23, 543, 544, 545, 30, 546, 547, 77, 79, 78, 548, 549, 550, 551, 519, 520, 26, 521, 70, 73, 72, 65, 66, 493, 461, 462, 463, 69, 464, 465, 466, 467, 67, 468, 469, 470, 522, 523, 524, 525, 526, 527, 528, 529, 498, 499, 500, 501, 552, 553, 554, 555, 80, 556, 279, 280, 16, 281, 49, 557, 558, 559, 560, 561, 656, 657, 658, 659, 660, 661, 662, 663, 745, 746, 747, 748, 749, 750, 751, 752, 753, 791, 792, 793, 794, 795, 796, 797, 798, 799, 812, 813, 814, 815, 803, 804, 805, 806, 807, 808, 809, 810, 811] (by decide +kernel) (by decide +kernel)) (goodIn_sub (fun _ h => List.mem_append_left _ (List.mem_append_left _ (List.mem_append_right _ h))) (by decide +kernel))
set_option maxRecDepth 20000 in
theorem gL_law_L_ranked : GoodIn wsL_law (va_wsS RL 139 yL_ranked wsL_ranked) := goodIn_app (goodIn_of _ (by decide +kernel)) ggL_law_L_ranked
set_option maxRecDepth 20000 in
theorem ggL_law_X7_ranked : GoodIn wsL_law wsX7_ranked := goodIn_r _ [667, 437, 438, 439, 5, 440, 244, 159, 160, 161, 165, 166, 167, 168, 169, 593, 594, 595, 596, 123, 475, 476, 477, 478, 105, 107, 119, 108, 122, 96, 109, 106, 479, 480, 481, 506, 507, 508, 509, 120, 602, 603, 604, 605, 102, 754, 755, 756, 757, 758, 759, 760, 761, 762, 763, 764, 765, 766, 767, 768, 769, 770, 771, 772, 773, 774, 775, 776, 777, 778, 779, 780, 781, 782, 783, 784, 785, 786, 787, 788, 789, 790] (by decide +kernel) (by decide +kernel)
set_option maxRecDepth 20000 in
theorem gL_law_X7_ranked : GoodIn wsL_law (wsV RL 141 RX7 yX7_ranked wsX7_ranked) := goodIn_app (goodIn_of _ (by decide +kernel)) ggL_law_X7_ranked
set_option maxRecDepth 20000 in
theorem ggL_law_L_table : GoodIn wsL_law wsL_table := goodIn_ca (goodIn_ca (goodIn_r _ [670, 133, 177, 671, 672, 673, 2, 674, 182, 183, 35, 675, 143, 144, 145, 146, 147, 676, 677, 678, 34, 679, 87, 85, 86, 680, 681, 682, 683, 684, 685, 686, 687, 688, 689, 690, 691, 692, 222, 223, 224, 745, 746, 747, 748, 749, 750, 751, 752, 753, 816, 817, 818] (by decide +kernel) (by decide +kernel)) (goodIn_sub (fun _ h => List.mem_append_right _ h) (by decide +kernel))) (goodIn_sub (fun _ h => List.mem_append_left _ (List.mem_append_right _ h)) (by decide +kernel))
set_option maxRecDepth 20000 in
theorem gL_law_L_table : GoodIn wsL_law (va_wsS RL 142 yL_table wsL_table) := goodIn_app (goodIn_of _ (by decide +kernel)) ggL_law_L_table
set_option maxRecDepth 20000 in
theorem ggL_law_X7_table : GoodIn wsL_law wsX7_table := goodIn_r _ [696, 124, 125, 126, 159, 160, 5, 161, 165, 166, 167, 168, 169, 754, 755, 756, 757, 758, 759, 760, 761, 762, 763, 764, 765, 766, 767, 768, 769, 770, 771, 772, 773, 774, 775, 776, 777, 778, 779, 780, 781, 782, 783, 784, 785, 786, 787, 788, 789, 790] (by decide +kernel) (by decide +kernel)
set_option maxRecDepth 20000 in
theorem gL_law_X7_table : GoodIn wsL_law (wsV RL 144 RX7 yX7_table wsX7_table) := goodIn_app (goodIn_of _ (by decide +kernel)) ggL_law_X7_table
set_option maxRecDepth 20000 in
theorem ggL_law_L_seed : GoodIn wsL_law wsL_seed := goodIn_ca (goodIn_r _ [699, 133, 700, 701, 702, 2, 703, 704, 39, 705, 143, 144, 145, 146, 147, 745, 746, 747, 748, 749, 750, 751, 752, 753, 819] (by decide +kernel) (by decide +kernel)) (goodIn_sub (fun _ h => List.mem_append_left _ (List.mem_append_right _ h)) (by decide +kernel))
set_option maxRecDepth 20000 in
theorem gL_law_L_seed : GoodIn wsL_law (va_wsS RL 145 yL_seed wsL_seed) := goodIn_app (goodIn_of _ (by decide +kernel)) ggL_law_L_seed
set_option maxRecDepth 20000 in
theorem ggL_law_X7_seed : GoodIn wsL_law wsX7_seed := goodIn_r _ [709, 710, 127, 159, 160, 5, 161, 165, 166, 167, 168, 169, 754, 755, 756, 757, 758, 759, 760, 761, 762, 763, 764, 765, 766, 767, 768, 769, 770, 771, 772, 773, 774, 775, 776, 777, 778, 779, 780, 781, 782, 783, 784, 785, 786, 787, 788, 789, 790] (by decide +kernel) (by decide +kernel)
set_option maxRecDepth 20000 in
theorem gL_law_X7_seed : GoodIn wsL_law (wsV RL 147 RX7 yX7_seed wsX7_seed) := goodIn_app (goodIn_of _ (by decide +kernel)) ggL_law_X7_seed
set_option maxRecDepth 20000 in
theorem ggL_law_L_draw : GoodIn wsL_law wsL_draw := goodIn_ca (goodIn_ca (goodIn_r _ [713, 132, 133, 714, 715, 716, 2, 717, 31, 17, 35, 275, 41, 39, 718, 429, 430, 431, 432, 141, 142, 23, 143, 144, 145, 146, 147, 543, 544, 545, 30, 546, 547, 77, 79, 78, 548, 549, 550, 551, 519, 520, 26, 521, 70, 73, 72, 65, 66, 493, 461, 462, 463, 69, 464, 465, 466, 467, 67, 468, 469, 470, 522, 523, 524, 525, 526, 527, 528, 529, 498, 499, 500, 501, 552, 553, 554, 555, 80, 556, 279, 280, 16, 281, 49, 557, 558, 559, 560, 561, 583, 584, 585, 586, 566, 587, 563, 564, 565, 567, 588, 574, 575, 576, 577, 578, 569, 570, 571, 572, 579, 580, 581, 34, 582, 87, 85, 86, 460, 719, 720, 721, 722, 723, 724, 725, 726, 48, 45, 47, 51, 727, 728, 729, 38, 730, 91, 731, 745, 746, 747, 748, 749, 750, 751, 752, 753, 791, 792, 793, 794, 795, 796, 797, 798, 799, 812, 813, 814, 815, 803, 804, 805, 806, 807, 808, 809, 810, 811, 816, 817, 818, 819] (by decide +kernel) (by decide +kernel)) (goodIn_sub (fun _ h => List.mem_append_left _ (List.mem_append_left _ (List.mem_append_right _ h))) (by decide +kernel))) (goodIn_sub (fun _ h => List.mem_append_left _ (List.mem_append_right _ h)) (by decide +kernel))
set_option maxRecDepth 20000 in
theorem gL_law_L_draw : GoodIn wsL_law (va_wsS RL 148 yL_draw wsL_draw) := goodIn_app (goodIn_of _ (by decide +kernel)) ggL_law_L_draw
set_option maxRecDepth 20000 in
theorem ggL_law_X7_draw : GoodIn wsL_law wsX7_draw := goodIn_r _ [735, 122, 609, 437, 438, 439, 5, 440, 244, 159, 160, 161, 165, 166, 167, 168, 169, 593, 594, 595, 596, 123, 475, 476, 477, 478, 105, 107, 119, 108, 96, 109, 106, 479, 480, 481, 506, 507, 508, 509, 120, 597, 598, 599, 600, 601, 103, 602, 603, 604, 605, 102, 632, 633, 634, 635, 623, 606, 607, 608, 610, 611, 612, 613, 614, 615, 616, 617, 618, 290, 291, 292, 293, 98, 100, 619, 620, 621, 622, 624, 625, 626, 627, 628, 629, 630, 631, 124, 125, 126, 736, 737, 738, 739, 99, 101, 740, 741, 742, 743, 127, 744, 754, 755, 756, 757, 758, 759, 760, 761, 762, 763, 764, 765, 766, 767, 768, 769, 770, 771, 772, 773, 774, 775, 776, 777, 778, 779, 780, 781, 782, 783, 784, 785, 786, 787, 788, 789, 790] (by decide +kernel) (by decide +kernel)
set_option maxRecDepth 20000 in
theorem gL_law_X7_draw : GoodIn wsL_law (wsV RL 150 RX7 yX7_draw wsX7_draw) := goodIn_app (goodIn_of _ (by decide +kernel)) ggL_law_X7_draw
