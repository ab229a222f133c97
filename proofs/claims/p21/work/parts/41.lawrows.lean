theorem dL_draw_0 : decode cL_draw 0 = .ok (.iload_n 1, 1) := by decide +kernel
theorem dL_draw_1 : decode cL_draw 1 = .ok (.aload_n 0, 1) := by decide +kernel
theorem dL_draw_2 : decode cL_draw 2 = .ok (.arraylength, 1) := by decide +kernel
theorem dL_draw_3 : decode cL_draw 3 = .ok (.if_icmp .ge 12, 3) := by decide +kernel
theorem dL_draw_6 : decode cL_draw 6 = .ok (.aload_n 0, 1) := by decide +kernel
theorem dL_draw_7 : decode cL_draw 7 = .ok (.iload_n 1, 1) := by decide +kernel
theorem dL_draw_8 : decode cL_draw 8 = .ok (.iaload, 1) := by decide +kernel
theorem dL_draw_9 : decode cL_draw 9 = .ok (.ldc 7, 2) := by decide +kernel
theorem dL_draw_11 : decode cL_draw 11 = .ok (.iand, 1) := by decide +kernel
theorem dL_draw_12 : decode cL_draw 12 = .ok (.goto 12, 3) := by decide +kernel
theorem dL_draw_15 : decode cL_draw 15 = .ok (.ldc 8, 2) := by decide +kernel
theorem dL_draw_17 : decode cL_draw 17 = .ok (.iload_n 1, 1) := by decide +kernel
theorem dL_draw_18 : decode cL_draw 18 = .ok (.iconst 2, 1) := by decide +kernel
theorem dL_draw_19 : decode cL_draw 19 = .ok (.iadd, 1) := by decide +kernel
theorem dL_draw_20 : decode cL_draw 20 = .ok (.imul, 1) := by decide +kernel
theorem dL_draw_21 : decode cL_draw 21 = .ok (.ldc 9, 2) := by decide +kernel
theorem dL_draw_23 : decode cL_draw 23 = .ok (.irem, 1) := by decide +kernel
theorem dL_draw_24 : decode cL_draw 24 = .ok (.ireturn, 1) := by decide +kernel
set_option maxRecDepth 20000 in
theorem ggL_types_X6_type : GoodIn wsL_types wsX6_type := goodIn_ca (goodIn_ca (goodIn_r _ [6, 7, 8, 9, 10, 11, 12, 13, 14, 15, 16, 17, 18, 19, 20, 21, 22, 23, 24, 25, 26, 27, 28, 29, 30, 31, 32, 33, 34, 35, 36, 37] (by decide +kernel) (by decide +kernel)) (goodIn_sub (fun _ h => List.mem_cons_of_mem _ (List.mem_append_left _ (List.mem_append_right _ h))) (by decide +kernel))) (goodIn_sub (fun _ h => List.mem_cons_of_mem _ (List.mem_append_right _ h)) (by decide +kernel))
set_option maxRecDepth 20000 in
theorem gL_types_X6_type : GoodIn wsL_types (wsV RL 10 RX6 yX6_type wsX6_type) := goodIn_app (goodIn_of _ (by decide +kernel)) ggL_types_X6_type
theorem dL_types_0 : decode cL_types 0 = .ok (.aload_n 0, 1) := by decide +kernel
theorem dL_types_1 : decode cL_types 1 = .ok (.lload_n 1, 1) := by decide +kernel
theorem dL_types_2 : decode cL_types 2 = .ok (.invokevirtual 10, 3) := by decide +kernel
theorem dL_types_5 : decode cL_types 5 = .ok (.ireturn, 1) := by decide +kernel
theorem dL_types_6 : decode cL_types 6 = .ok (.astore_n 3, 1) := by decide +kernel
theorem dL_types_7 : decode cL_types 7 = .ok (.bipush (-2), 2) := by decide +kernel
theorem dL_types_9 : decode cL_types 9 = .ok (.ireturn, 1) := by decide +kernel
set_option maxRecDepth 20000 in
theorem ggL_reads_X6_read : GoodIn wsL_reads wsX6_read := goodIn_ca (goodIn_ca (goodIn_ca (goodIn_r _ [6, 7, 8, 9, 10, 11, 12, 5, 13, 14, 15, 16, 17, 18, 19, 20, 21, 22, 23, 24, 25, 26, 27, 28, 29, 30, 31, 32, 33, 34, 35, 36, 37, 38, 39, 40, 41, 42, 43, 44, 45, 46, 47, 48, 49, 50, 51, 52, 53, 54, 55, 56] (by decide +kernel) (by decide +kernel)) (goodIn_sub (fun _ h => List.mem_cons_of_mem _ (List.mem_append_left _ (List.mem_append_left _ (List.mem_append_right _ h)))) (by decide +kernel))) (goodIn_sub (fun _ h => List.mem_cons_of_mem _ (List.mem_append_left _ (List.mem_append_right _ h))) (by decide +kernel))) (goodIn_sub (fun _ h => List.mem_cons_of_mem _ (List.mem_append_right _ h)) (by decide +kernel))
set_option maxRecDepth 20000 in
theorem gL_reads_X6_read : GoodIn wsL_reads (wsV RL 18 RX6 yX6_read wsX6_read) := goodIn_app (goodIn_of _ (by decide +kernel)) ggL_reads_X6_read
theorem dL_reads_0 : decode cL_reads 0 = .ok (.aload_n 0, 1) := by decide +kernel
theorem dL_reads_1 : decode cL_reads 1 = .ok (.iload_n 1, 1) := by decide +kernel
theorem dL_reads_2 : decode cL_reads 2 = .ok (.iload_n 2, 1) := by decide +kernel
theorem dL_reads_3 : decode cL_reads 3 = .ok (.invokevirtual 18, 3) := by decide +kernel
theorem dL_reads_6 : decode cL_reads 6 = .ok (.ireturn, 1) := by decide +kernel
theorem dL_reads_7 : decode cL_reads 7 = .ok (.astore_n 3, 1) := by decide +kernel
theorem dL_reads_8 : decode cL_reads 8 = .ok (.bipush (-2), 2) := by decide +kernel
theorem dL_reads_10 : decode cL_reads 10 = .ok (.ireturn, 1) := by decide +kernel
set_option maxRecDepth 20000 in
theorem ggL_tables_X6_table : GoodIn wsL_tables wsX6_table := goodIn_ca (goodIn_ca (goodIn_r _ [6, 7, 8, 9, 10, 11, 12, 5, 13, 14, 15, 16, 17, 18, 19, 20, 21, 22, 23, 24, 25, 26, 27, 28, 29, 30, 31, 32, 33, 34, 35, 36, 37, 38, 39, 40, 41, 42, 43, 44, 45, 46, 47, 48, 49, 50, 51] (by decide +kernel) (by decide +kernel)) (goodIn_sub (fun _ h => List.mem_cons_of_mem _ (List.mem_append_left _ (List.mem_append_right _ h))) (by decide +kernel))) (goodIn_sub (fun _ h => List.mem_cons_of_mem _ (List.mem_append_right _ h)) (by decide +kernel))
set_option maxRecDepth 20000 in
theorem gL_tables_X6_table : GoodIn wsL_tables (wsV RL 22 RX6 yX6_table wsX6_table) := goodIn_app (goodIn_of _ (by decide +kernel)) ggL_tables_X6_table
theorem dL_tables_0 : decode cL_tables 0 = .ok (.aload_n 0, 1) := by decide +kernel
theorem dL_tables_1 : decode cL_tables 1 = .ok (.iload_n 1, 1) := by decide +kernel
theorem dL_tables_2 : decode cL_tables 2 = .ok (.iload_n 2, 1) := by decide +kernel
theorem dL_tables_3 : decode cL_tables 3 = .ok (.invokevirtual 22, 3) := by decide +kernel
theorem dL_tables_6 : decode cL_tables 6 = .ok (.ireturn, 1) := by decide +kernel
theorem dL_tables_7 : decode cL_tables 7 = .ok (.astore_n 3, 1) := by decide +kernel
theorem dL_tables_8 : decode cL_tables 8 = .ok (.bipush (-2), 2) := by decide +kernel
theorem dL_tables_10 : decode cL_tables 10 = .ok (.ireturn, 1) := by decide +kernel
theorem dL_part_0 : decode cL_part 0 = .ok (.bipush 97, 2) := by decide +kernel
theorem dL_part_2 : decode cL_part 2 = .ok (.iload_n 0, 1) := by decide +kernel
theorem dL_part_3 : decode cL_part 3 = .ok (.bipush 6, 2) := by decide +kernel
theorem dL_part_5 : decode cL_part 5 = .ok (.irem, 1) := by decide +kernel
theorem dL_part_6 : decode cL_part 6 = .ok (.iadd, 1) := by decide +kernel
theorem dL_part_7 : decode cL_part 7 = .ok (.i2l, 1) := by decide +kernel
theorem dL_part_8 : decode cL_part 8 = .ok (.lstore_n 2, 1) := by decide +kernel
theorem dL_part_9 : decode cL_part 9 = .ok (.bipush 97, 2) := by decide +kernel
theorem dL_part_11 : decode cL_part 11 = .ok (.iload_n 1, 1) := by decide +kernel
theorem dL_part_12 : decode cL_part 12 = .ok (.bipush 6, 2) := by decide +kernel
theorem dL_part_14 : decode cL_part 14 = .ok (.irem, 1) := by decide +kernel
theorem dL_part_15 : decode cL_part 15 = .ok (.iadd, 1) := by decide +kernel
theorem dL_part_16 : decode cL_part 16 = .ok (.i2l, 1) := by decide +kernel
theorem dL_part_17 : decode cL_part 17 = .ok (.lstore 4, 2) := by decide +kernel
theorem dL_part_19 : decode cL_part 19 = .ok (.bipush 48, 2) := by decide +kernel
theorem dL_part_21 : decode cL_part 21 = .ok (.iload_n 1, 1) := by decide +kernel
theorem dL_part_22 : decode cL_part 22 = .ok (.bipush 6, 2) := by decide +kernel
theorem dL_part_24 : decode cL_part 24 = .ok (.idiv, 1) := by decide +kernel
theorem dL_part_25 : decode cL_part 25 = .ok (.iconst 5, 1) := by decide +kernel
theorem dL_part_26 : decode cL_part 26 = .ok (.irem, 1) := by decide +kernel
theorem dL_part_27 : decode cL_part 27 = .ok (.iadd, 1) := by decide +kernel
theorem dL_part_28 : decode cL_part 28 = .ok (.i2l, 1) := by decide +kernel
theorem dL_part_29 : decode cL_part 29 = .ok (.lstore 6, 2) := by decide +kernel
theorem dL_part_31 : decode cL_part 31 = .ok (.iload_n 0, 1) := by decide +kernel
theorem dL_part_32 : decode cL_part 32 = .ok (.bipush 6, 2) := by decide +kernel
theorem dL_part_34 : decode cL_part 34 = .ok (.idiv, 1) := by decide +kernel
theorem dL_part_35 : decode cL_part 35 = .ok (.bipush 6, 2) := by decide +kernel
theorem dL_part_37 : decode cL_part 37 = .ok (.irem, 1) := by decide +kernel
theorem dL_part_38 : decode cL_part 38 = .ok (.tableswitch 134 0 4 #[34, 36, 59, 82, 115], 34) := by decide +kernel
theorem dL_part_72 : decode cL_part 72 = .ok (.lload_n 2, 1) := by decide +kernel
theorem dL_part_73 : decode cL_part 73 = .ok (.lreturn, 1) := by decide +kernel
theorem dL_part_74 : decode cL_part 74 = .ok (.bipush 48, 2) := by decide +kernel
theorem dL_part_76 : decode cL_part 76 = .ok (.iload_n 1, 1) := by decide +kernel
theorem dL_part_77 : decode cL_part 77 = .ok (.bipush 10, 2) := by decide +kernel
theorem dL_part_79 : decode cL_part 79 = .ok (.irem, 1) := by decide +kernel
theorem dL_part_80 : decode cL_part 80 = .ok (.iadd, 1) := by decide +kernel
theorem dL_part_81 : decode cL_part 81 = .ok (.bipush 48, 2) := by decide +kernel
theorem dL_part_83 : decode cL_part 83 = .ok (.iload_n 1, 1) := by decide +kernel
theorem dL_part_84 : decode cL_part 84 = .ok (.bipush 10, 2) := by decide +kernel
theorem dL_part_86 : decode cL_part 86 = .ok (.idiv, 1) := by decide +kernel
theorem dL_part_87 : decode cL_part 87 = .ok (.bipush 10, 2) := by decide +kernel
theorem dL_part_89 : decode cL_part 89 = .ok (.irem, 1) := by decide +kernel
theorem dL_part_90 : decode cL_part 90 = .ok (.iadd, 1) := by decide +kernel
theorem dL_part_91 : decode cL_part 91 = .ok (.bipush 8, 2) := by decide +kernel
theorem dL_part_93 : decode cL_part 93 = .ok (.ishl, 1) := by decide +kernel
theorem dL_part_94 : decode cL_part 94 = .ok (.ior, 1) := by decide +kernel
theorem dL_part_95 : decode cL_part 95 = .ok (.i2l, 1) := by decide +kernel
theorem dL_part_96 : decode cL_part 96 = .ok (.lreturn, 1) := by decide +kernel
theorem dL_part_97 : decode cL_part 97 = .ok (.ldc2_w 25, 3) := by decide +kernel
theorem dL_part_100 : decode cL_part 100 = .ok (.lload_n 2, 1) := by decide +kernel
theorem dL_part_101 : decode cL_part 101 = .ok (.bipush 8, 2) := by decide +kernel
theorem dL_part_103 : decode cL_part 103 = .ok (.lshl, 1) := by decide +kernel
theorem dL_part_104 : decode cL_part 104 = .ok (.lor, 1) := by decide +kernel
theorem dL_part_105 : decode cL_part 105 = .ok (.ldc2_w 27, 3) := by decide +kernel
theorem dL_part_108 : decode cL_part 108 = .ok (.lor, 1) := by decide +kernel
theorem dL_part_109 : decode cL_part 109 = .ok (.lload 4, 2) := by decide +kernel
theorem dL_part_111 : decode cL_part 111 = .ok (.bipush 24, 2) := by decide +kernel
theorem dL_part_113 : decode cL_part 113 = .ok (.lshl, 1) := by decide +kernel
theorem dL_part_114 : decode cL_part 114 = .ok (.lor, 1) := by decide +kernel
theorem dL_part_115 : decode cL_part 115 = .ok (.ldc2_w 29, 3) := by decide +kernel
theorem dL_part_118 : decode cL_part 118 = .ok (.lor, 1) := by decide +kernel
theorem dL_part_119 : decode cL_part 119 = .ok (.lreturn, 1) := by decide +kernel
theorem dL_part_120 : decode cL_part 120 = .ok (.ldc2_w 25, 3) := by decide +kernel
theorem dL_part_123 : decode cL_part 123 = .ok (.lload_n 2, 1) := by decide +kernel
theorem dL_part_124 : decode cL_part 124 = .ok (.bipush 8, 2) := by decide +kernel
theorem dL_part_126 : decode cL_part 126 = .ok (.lshl, 1) := by decide +kernel
theorem dL_part_127 : decode cL_part 127 = .ok (.lor, 1) := by decide +kernel
theorem dL_part_128 : decode cL_part 128 = .ok (.ldc2_w 31, 3) := by decide +kernel
theorem dL_part_131 : decode cL_part 131 = .ok (.lor, 1) := by decide +kernel
theorem dL_part_132 : decode cL_part 132 = .ok (.lload 4, 2) := by decide +kernel
theorem dL_part_134 : decode cL_part 134 = .ok (.bipush 24, 2) := by decide +kernel
theorem dL_part_136 : decode cL_part 136 = .ok (.lshl, 1) := by decide +kernel
theorem dL_part_137 : decode cL_part 137 = .ok (.lor, 1) := by decide +kernel
theorem dL_part_138 : decode cL_part 138 = .ok (.ldc2_w 29, 3) := by decide +kernel
theorem dL_part_141 : decode cL_part 141 = .ok (.lor, 1) := by decide +kernel
theorem dL_part_142 : decode cL_part 142 = .ok (.ldc2_w 33, 3) := by decide +kernel
theorem dL_part_145 : decode cL_part 145 = .ok (.lor, 1) := by decide +kernel
theorem dL_part_146 : decode cL_part 146 = .ok (.lload 6, 2) := by decide +kernel
theorem dL_part_148 : decode cL_part 148 = .ok (.bipush 48, 2) := by decide +kernel
theorem dL_part_150 : decode cL_part 150 = .ok (.lshl, 1) := by decide +kernel
theorem dL_part_151 : decode cL_part 151 = .ok (.lor, 1) := by decide +kernel
theorem dL_part_152 : decode cL_part 152 = .ok (.lreturn, 1) := by decide +kernel
theorem dL_part_153 : decode cL_part 153 = .ok (.ldc2_w 35, 3) := by decide +kernel
theorem dL_part_156 : decode cL_part 156 = .ok (.lload_n 2, 1) := by decide +kernel
theorem dL_part_157 : decode cL_part 157 = .ok (.bipush 8, 2) := by decide +kernel
theorem dL_part_159 : decode cL_part 159 = .ok (.lshl, 1) := by decide +kernel
theorem dL_part_160 : decode cL_part 160 = .ok (.lor, 1) := by decide +kernel
theorem dL_part_161 : decode cL_part 161 = .ok (.ldc2_w 37, 3) := by decide +kernel
theorem dL_part_164 : decode cL_part 164 = .ok (.lor, 1) := by decide +kernel
theorem dL_part_165 : decode cL_part 165 = .ok (.lload 6, 2) := by decide +kernel
theorem dL_part_167 : decode cL_part 167 = .ok (.bipush 24, 2) := by decide +kernel
theorem dL_part_169 : decode cL_part 169 = .ok (.lshl, 1) := by decide +kernel
theorem dL_part_170 : decode cL_part 170 = .ok (.lor, 1) := by decide +kernel
theorem dL_part_171 : decode cL_part 171 = .ok (.lreturn, 1) := by decide +kernel
theorem dL_part_172 : decode cL_part 172 = .ok (.lload_n 2, 1) := by decide +kernel
theorem dL_part_173 : decode cL_part 173 = .ok (.ldc2_w 39, 3) := by decide +kernel
theorem dL_part_176 : decode cL_part 176 = .ok (.lor, 1) := by decide +kernel
theorem dL_part_177 : decode cL_part 177 = .ok (.lload 6, 2) := by decide +kernel
theorem dL_part_179 : decode cL_part 179 = .ok (.bipush 16, 2) := by decide +kernel
theorem dL_part_181 : decode cL_part 181 = .ok (.lshl, 1) := by decide +kernel
theorem dL_part_182 : decode cL_part 182 = .ok (.lor, 1) := by decide +kernel
theorem dL_part_183 : decode cL_part 183 = .ok (.lreturn, 1) := by decide +kernel
set_option maxRecDepth 20000 in
theorem ggL_step_X6_shape : GoodIn wsL_step wsX6_shape := goodIn_ca (goodIn_ca (goodIn_r _ [7, 8, 9, 10, 6, 11, 12, 13, 14, 15, 16, 17, 18, 19, 20, 21, 22, 23, 24, 25, 26, 27, 28, 29, 30, 31, 382, 383, 384, 385, 386, 387, 388, 389, 390, 391, 392, 393, 394, 395, 396, 397, 398, 399] (by decide +kernel) (by decide +kernel)) (goodIn_sub (fun _ h => List.mem_cons_of_mem _ (List.mem_append_left _ (List.mem_append_left _ (List.mem_append_right _ h)))) (by decide +kernel))) (goodIn_sub (fun _ h => List.mem_cons_of_mem _ (List.mem_append_left _ (List.mem_append_right _ h))) (by decide +kernel))
set_option maxRecDepth 20000 in
theorem gL_step_X6_shape : GoodIn wsL_step (wsV RL 41 RX6 yX6_shape wsX6_shape) := goodIn_app (goodIn_of _ (by decide +kernel)) ggL_step_X6_shape
set_option maxRecDepth 20000 in
theorem ggL_step_X6_input : GoodIn wsL_step wsX6_input := goodIn_ca (goodIn_ca (goodIn_r _ [35, 8, 36, 37, 38, 9, 10, 6, 11, 12, 13, 14, 15, 16, 17, 18, 39, 40, 41, 22, 42, 27, 43, 44, 45, 46, 25, 26, 382, 383, 384, 385, 386, 387, 388, 389, 390, 391, 392, 393, 394, 395, 396, 397, 398, 399] (by decide +kernel) (by decide +kernel)) (goodIn_sub (fun _ h => List.mem_cons_of_mem _ (List.mem_append_left _ (List.mem_append_left _ (List.mem_append_right _ h)))) (by decide +kernel))) (goodIn_sub (fun _ h => List.mem_cons_of_mem _ (List.mem_append_left _ (List.mem_append_right _ h))) (by decide +kernel))
set_option maxRecDepth 20000 in
theorem gL_step_X6_input : GoodIn wsL_step (wsV RL 45 RX6 yX6_input wsX6_input) := goodIn_app (goodIn_of _ (by decide +kernel)) ggL_step_X6_input
set_option maxRecDepth 20000 in
theorem ggL_step_L_reads : GoodIn wsL_step wsL_reads := goodIn_ca (goodIn_ca (goodIn_ca (goodIn_r _ [50, 51, 52, 53, 54, 6, 55, 56, 57, 8, 58, 9, 10, 11, 12, 13, 14, 15, 16, 17, 18, 59, 60, 61, 22, 62, 27, 63, 25, 28, 64, 65, 66, 67, 24, 68, 69, 70, 71, 382, 383, 384, 385, 386, 387, 388, 389, 390, 391, 392, 393, 394, 395, 396, 397, 398, 399] (by decide +kernel) (by decide +kernel)) (goodIn_sub (fun _ h => List.mem_cons_of_mem _ (List.mem_append_right _ h)) (by decide +kernel))) (goodIn_sub (fun _ h => List.mem_cons_of_mem _ (List.mem_append_left _ (List.mem_append_left _ (List.mem_append_right _ h)))) (by decide +kernel))) (goodIn_sub (fun _ h => List.mem_cons_of_mem _ (List.mem_append_left _ (List.mem_append_right _ h))) (by decide +kernel))
set_option maxRecDepth 20000 in
theorem gL_step_L_reads : GoodIn wsL_step (va_wsS RL 48 yL_reads wsL_reads) := goodIn_app (goodIn_of _ (by decide +kernel)) ggL_step_L_reads
set_option maxRecDepth 20000 in
theorem ggL_step_X6_unit : GoodIn wsL_step wsX6_unit := goodIn_ca (goodIn_ca (goodIn_r _ [75, 8, 76, 77, 9, 10, 6, 11, 12, 13, 14, 15, 16, 17, 18, 78, 79, 80, 81, 82, 83, 84, 85, 86, 87, 88, 89, 90, 91, 92, 93, 94, 95, 96, 97, 98, 99, 100, 101, 102, 103, 104, 105, 106, 107, 108, 109, 110, 111, 112, 113, 382, 383, 384, 385, 386, 387, 388, 389, 390, 391, 392, 393, 394, 395, 396, 397, 398, 399, 400, 401, 402, 403, 404, 405, 406, 407, 408] (by decide +kernel) (by decide +kernel)) (goodIn_sub (fun _ h => List.mem_cons_of_mem _ (List.mem_append_left _ (List.mem_append_left _ (List.mem_append_right _ h)))) (by decide +kernel))) (goodIn_sub (fun _ h => List.mem_cons_of_mem _ (List.mem_append_left _ (List.mem_append_right _ h))) (by decide +kernel))
set_option maxRecDepth 20000 in
theorem gL_step_X6_unit : GoodIn wsL_step (wsV RL 54 RX6 yX6_unit wsX6_unit) := goodIn_app (goodIn_of _ (by decide +kernel)) ggL_step_X6_unit
set_option maxRecDepth 20000 in
theorem ggL_step_X6_disagrees : GoodIn wsL_step wsX6_disagrees := goodIn_ca (goodIn_r _ [117, 8, 76, 77, 118, 119, 120, 6, 121, 12, 13, 82, 83, 84, 85, 86, 87, 88, 89, 90, 91, 92, 93, 94, 95, 96, 97, 98, 99, 100, 101, 102, 103, 104, 105, 106, 107, 108, 109, 110, 111, 112, 113, 382, 383, 384, 385, 386, 387, 388, 389, 390, 391, 392, 393, 394, 395, 396, 397, 398, 399, 400, 401, 402, 403, 404, 405, 406, 407, 408] (by decide +kernel) (by decide +kernel)) (goodIn_sub (fun _ h => List.mem_cons_of_mem _ (List.mem_append_left _ (List.mem_append_left _ (List.mem_append_right _ h)))) (by decide +kernel))
set_option maxRecDepth 20000 in
theorem gL_step_X6_disagrees : GoodIn wsL_step (wsV RL 58 RX6 yX6_disagrees wsX6_disagrees) := goodIn_app (goodIn_of _ (by decide +kernel)) ggL_step_X6_disagrees
set_option maxRecDepth 20000 in
theorem ggL_step_X6_together : GoodIn wsL_step wsX6_together := goodIn_ca (goodIn_ca (goodIn_r _ [125, 17, 18, 8, 9, 10, 6, 11, 12, 13, 14, 15, 16, 126, 127, 128, 22, 129, 130, 382, 383, 384, 385, 386, 387, 388, 389, 390, 391, 392, 393, 394, 395, 396, 397, 398, 399] (by decide +kernel) (by decide +kernel)) (goodIn_sub (fun _ h => List.mem_cons_of_mem _ (List.mem_append_left _ (List.mem_append_right _ h))) (by decide +kernel))) (goodIn_sub (fun _ h => List.mem_cons_of_mem _ (List.mem_append_left _ (List.mem_append_left _ (List.mem_append_right _ h)))) (by decide +kernel))
set_option maxRecDepth 20000 in
theorem gL_step_X6_together : GoodIn wsL_step (wsV RL 62 RX6 yX6_together wsX6_together) := goodIn_app (goodIn_of _ (by decide +kernel)) ggL_step_X6_together
set_option maxRecDepth 20000 in
theorem ggL_step_L_isRead : GoodIn wsL_step wsL_isRead := goodIn_ca (goodIn_ca (goodIn_ca (goodIn_r _ [133, 134, 135, 136, 137, 138, 49, 139, 51, 140, 141, 142, 6, 143, 17, 18, 56, 57, 144, 145, 146, 147, 148, 149, 150, 151, 152, 153, 154, 155, 156, 157, 158, 159, 160, 161, 162, 163, 164, 165, 166, 167, 168, 169, 170, 171, 172, 12, 13, 173, 174, 82, 175, 176, 86, 177, 178, 179, 180, 181, 182, 183, 184, 185, 186, 187, 99, 101, 188, 189, 190, 191, 192, 193, 194, 195, 196, 197, 198, 199, 200, 201, 202, 108, 106, 107, 113, 203, 204, 205, 206, 207, 208, 209, 210, 211, 212, 213, 214, 215, 216, 217, 218, 219, 220, 221, 222, 223, 224, 225, 226, 227, 228, 229, 230, 231, 232, 233, 234, 235, 100, 236, 237, 238, 239, 8, 36, 118, 119, 120, 121, 240, 241, 242, 243, 244, 245, 246, 247, 248, 249, 250, 382, 383, 384, 385, 386, 387, 388, 389, 390, 409, 410, 411, 400, 401, 402, 403, 404, 405, 406, 407, 408, 391, 392, 393, 394, 395, 396, 397, 398, 399] (by decide +kernel) (by decide +kernel)) (goodIn_sub (fun _ h => List.mem_cons_of_mem _ (List.mem_append_left _ (List.mem_append_right _ h))) (by decide +kernel))) (goodIn_sub (fun _ h => List.mem_cons_of_mem _ (List.mem_append_right _ h)) (by decide +kernel))) (goodIn_sub (fun _ h => List.mem_cons_of_mem _ (List.mem_append_left _ (List.mem_append_left _ (List.mem_append_right _ h)))) (by decide +kernel))
set_option maxRecDepth 20000 in
theorem gL_step_L_isRead : GoodIn wsL_step (va_wsS RL 65 yL_isRead wsL_isRead) := goodIn_app (goodIn_of _ (by decide +kernel)) ggL_step_L_isRead
set_option maxRecDepth 20000 in
theorem ggL_step_L_tables : GoodIn wsL_step wsL_tables := goodIn_ca (goodIn_ca (goodIn_r _ [253, 51, 254, 255, 256, 6, 257, 56, 57, 258, 259, 14, 15, 16, 17, 18, 260, 261, 262, 263, 264, 265, 266, 267, 268, 269, 270, 271, 272, 273, 274, 275, 276, 277, 278, 279, 280, 89, 90, 91, 382, 383, 384, 385, 386, 387, 388, 389, 390, 412, 413, 414] (by decide +kernel) (by decide +kernel)) (goodIn_sub (fun _ h => List.mem_cons_of_mem _ (List.mem_append_right _ h)) (by decide +kernel))) (goodIn_sub (fun _ h => List.mem_cons_of_mem _ (List.mem_append_left _ (List.mem_append_right _ h))) (by decide +kernel))
set_option maxRecDepth 20000 in
theorem gL_step_L_tables : GoodIn wsL_step (va_wsS RL 69 yL_tables wsL_tables) := goodIn_app (goodIn_of _ (by decide +kernel)) ggL_step_L_tables
set_option maxRecDepth 20000 in
theorem ggL_step_X6_seed : GoodIn wsL_step wsX6_seed := goodIn_ca (goodIn_r _ [284, 285, 286, 287, 14, 15, 6, 16, 17, 18, 382, 383, 384, 385, 386, 387, 388, 389, 390, 415] (by decide +kernel) (by decide +kernel)) (goodIn_sub (fun _ h => List.mem_cons_of_mem _ (List.mem_append_left _ (List.mem_append_right _ h))) (by decide +kernel))
set_option maxRecDepth 20000 in
theorem gL_step_X6_seed : GoodIn wsL_step (wsV RL 73 RX6 yX6_seed wsX6_seed) := goodIn_app (goodIn_of _ (by decide +kernel)) ggL_step_X6_seed
set_option maxRecDepth 20000 in
theorem ggL_step_X6_draw : GoodIn wsL_step wsX6_draw := goodIn_ca (goodIn_ca (goodIn_r _ [291, 292, 8, 258, 36, 293, 286, 294, 118, 119, 120, 6, 121, 12, 13, 82, 14, 15, 16, 17, 18, 295, 296, 297, 298, 299, 300, 301, 302, 303, 304, 305, 306, 307, 308, 309, 86, 310, 235, 101, 99, 108, 106, 311, 241, 242, 243, 234, 244, 245, 246, 247, 107, 248, 249, 250, 312, 313, 314, 315, 316, 317, 318, 319, 320, 321, 322, 323, 324, 325, 326, 327, 328, 329, 40, 41, 22, 42, 27, 330, 331, 332, 333, 334, 335, 336, 337, 338, 339, 340, 341, 342, 343, 344, 345, 346, 347, 348, 349, 350, 351, 352, 353, 354, 355, 356, 357, 263, 358, 265, 266, 267, 240, 359, 360, 361, 362, 363, 364, 365, 366, 26, 24, 25, 63, 367, 368, 369, 370, 371, 372, 373, 382, 383, 384, 385, 386, 387, 388, 389, 390, 391, 392, 393, 394, 395, 396, 397, 398, 399, 416, 417, 418, 419, 400, 401, 402, 403, 404, 405, 406, 407, 408, 412, 413, 414, 415] (by decide +kernel) (by decide +kernel)) (goodIn_sub (fun _ h => List.mem_cons_of_mem _ (List.mem_append_left _ (List.mem_append_left _ (List.mem_append_right _ h)))) (by decide +kernel))) (goodIn_sub (fun _ h => List.mem_cons_of_mem _ (List.mem_append_left _ (List.mem_append_right _ h))) (by decide +kernel))
set_option maxRecDepth 20000 in
theorem gL_step_X6_draw : GoodIn wsL_step (wsV RL 76 RX6 yX6_draw wsX6_draw) := goodIn_app (goodIn_of _ (by decide +kernel)) ggL_step_X6_draw
set_option maxRecDepth 20000 in
theorem ggL_step_X6_budget : GoodIn wsL_step wsX6_budget := goodIn_ca (goodIn_ca (goodIn_r _ [377, 292, 8, 378, 258, 118, 119, 120, 6, 121, 12, 13, 82, 14, 15, 16, 17, 18, 295, 296, 297, 298, 299, 300, 301, 302, 303, 304, 305, 306, 307, 308, 309, 86, 310, 235, 101, 99, 108, 106, 311, 241, 242, 243, 234, 244, 245, 246, 247, 107, 248, 249, 250, 312, 313, 314, 315, 316, 317, 318, 319, 320, 321, 322, 323, 324, 325, 326, 327, 328, 329, 40, 41, 22, 42, 27, 330, 331, 332, 333, 334, 379, 341, 342, 343, 339, 344, 380, 351, 352, 353, 354, 381, 346, 347, 348, 349, 350, 355, 356, 357, 263, 358, 265, 266, 267, 335, 336, 337, 338, 340, 345, 382, 383, 384, 385, 386, 387, 388, 389, 390, 416, 417, 418, 419, 391, 392, 393, 394, 395, 396, 397, 398, 399, 400, 401, 402, 403, 404, 405, 406, 407, 408, 412, 413, 414] (by decide +kernel) (by decide +kernel)) (goodIn_sub (fun _ h => List.mem_cons_of_mem _ (List.mem_append_left _ (List.mem_append_left _ (List.mem_append_right _ h)))) (by decide +kernel))) (goodIn_sub (fun _ h => List.mem_cons_of_mem _ (List.mem_append_left _ (List.mem_append_right _ h))) (by decide +kernel))
set_option maxRecDepth 20000 in
theorem gL_step_X6_budget : GoodIn wsL_step (wsV RL 79 RX6 yX6_budget wsX6_budget) := goodIn_app (goodIn_of _ (by decide +kernel)) ggL_step_X6_budget
theorem dL_step_0 : decode cL_step 0 = .ok (.iload 4, 2) := by decide +kernel
theorem dL_step_2 : decode cL_step 2 = .ok (.bipush 6, 2) := by decide +kernel
theorem dL_step_4 : decode cL_step 4 = .ok (.irem, 1) := by decide +kernel
theorem dL_step_5 : decode cL_step 5 = .ok (.istore 6, 2) := by decide +kernel
theorem dL_step_7 : decode cL_step 7 = .ok (.iload 6, 2) := by decide +kernel
theorem dL_step_9 : decode cL_step 9 = .ok (.iconst 1, 1) := by decide +kernel
theorem dL_step_10 : decode cL_step 10 = .ok (.iadd, 1) := by decide +kernel
theorem dL_step_11 : decode cL_step 11 = .ok (.iload 5, 2) := by decide +kernel
theorem dL_step_13 : decode cL_step 13 = .ok (.iconst 5, 1) := by decide +kernel
theorem dL_step_14 : decode cL_step 14 = .ok (.irem, 1) := by decide +kernel
theorem dL_step_15 : decode cL_step 15 = .ok (.iadd, 1) := by decide +kernel
theorem dL_step_16 : decode cL_step 16 = .ok (.bipush 6, 2) := by decide +kernel
theorem dL_step_18 : decode cL_step 18 = .ok (.irem, 1) := by decide +kernel
theorem dL_step_19 : decode cL_step 19 = .ok (.istore 7, 2) := by decide +kernel
theorem dL_step_21 : decode cL_step 21 = .ok (.iload_n 3, 1) := by decide +kernel
theorem dL_step_22 : decode cL_step 22 = .ok (.bipush 14, 2) := by decide +kernel
theorem dL_step_24 : decode cL_step 24 = .ok (.irem, 1) := by decide +kernel
theorem dL_step_25 : decode cL_step 25 = .ok (.tableswitch 725 0 11 #[63, 63, 234, 234, 379, 457, 536, 536, 536, 536, 546, 661], 63) := by decide +kernel
theorem dL_step_88 : decode cL_step 88 = .ok (.iload 5, 2) := by decide +kernel
theorem dL_step_90 : decode cL_step 90 = .ok (.iconst 4, 1) := by decide +kernel
theorem dL_step_91 : decode cL_step 91 = .ok (.irem, 1) := by decide +kernel
theorem dL_step_92 : decode cL_step 92 = .ok (.istore 8, 2) := by decide +kernel
theorem dL_step_94 : decode cL_step 94 = .ok (.iload 8, 2) := by decide +kernel
theorem dL_step_96 : decode cL_step 96 = .ok (.ifCond .ne 7, 3) := by decide +kernel
theorem dL_step_99 : decode cL_step 99 = .ok (.iconst 0, 1) := by decide +kernel
theorem dL_step_100 : decode cL_step 100 = .ok (.goto 10, 3) := by decide +kernel
theorem dL_step_103 : decode cL_step 103 = .ok (.iload 5, 2) := by decide +kernel
theorem dL_step_105 : decode cL_step 105 = .ok (.iconst 4, 1) := by decide +kernel
theorem dL_step_106 : decode cL_step 106 = .ok (.idiv, 1) := by decide +kernel
theorem dL_step_107 : decode cL_step 107 = .ok (.bipush 100, 2) := by decide +kernel
theorem dL_step_109 : decode cL_step 109 = .ok (.irem, 1) := by decide +kernel
theorem dL_step_110 : decode cL_step 110 = .ok (.istore 9, 2) := by decide +kernel
theorem dL_step_112 : decode cL_step 112 = .ok (.aload_n 2, 1) := by decide +kernel
theorem dL_step_113 : decode cL_step 113 = .ok (.iload 6, 2) := by decide +kernel
theorem dL_step_115 : decode cL_step 115 = .ok (.iconst 0, 1) := by decide +kernel
theorem dL_step_116 : decode cL_step 116 = .ok (.iastore, 1) := by decide +kernel
theorem dL_step_117 : decode cL_step 117 = .ok (.aload_n 0, 1) := by decide +kernel
theorem dL_step_118 : decode cL_step 118 = .ok (.iload 6, 2) := by decide +kernel
theorem dL_step_120 : decode cL_step 120 = .ok (.iload 4, 2) := by decide +kernel
theorem dL_step_122 : decode cL_step 122 = .ok (.bipush 6, 2) := by decide +kernel
theorem dL_step_124 : decode cL_step 124 = .ok (.idiv, 1) := by decide +kernel
theorem dL_step_125 : decode cL_step 125 = .ok (.sipush 1999, 3) := by decide +kernel
theorem dL_step_128 : decode cL_step 128 = .ok (.irem, 1) := by decide +kernel
theorem dL_step_129 : decode cL_step 129 = .ok (.sipush 999, 3) := by decide +kernel
theorem dL_step_132 : decode cL_step 132 = .ok (.isub, 1) := by decide +kernel
theorem dL_step_133 : decode cL_step 133 = .ok (.iload 8, 2) := by decide +kernel
theorem dL_step_135 : decode cL_step 135 = .ok (.iload 9, 2) := by decide +kernel
theorem dL_step_137 : decode cL_step 137 = .ok (.invokevirtual 41, 3) := by decide +kernel
theorem dL_step_140 : decode cL_step 140 = .ok (.istore 10, 2) := by decide +kernel
theorem dL_step_142 : decode cL_step 142 = .ok (.iload 10, 2) := by decide +kernel
theorem dL_step_144 : decode cL_step 144 = .ok (.iload 8, 2) := by decide +kernel
theorem dL_step_146 : decode cL_step 146 = .ok (.ifCond .ne 7, 3) := by decide +kernel
theorem dL_step_149 : decode cL_step 149 = .ok (.iconst 0, 1) := by decide +kernel
theorem dL_step_150 : decode cL_step 150 = .ok (.goto 31, 3) := by decide +kernel
theorem dL_step_153 : decode cL_step 153 = .ok (.iload 9, 2) := by decide +kernel
theorem dL_step_155 : decode cL_step 155 = .ok (.iload 9, 2) := by decide +kernel
theorem dL_step_157 : decode cL_step 157 = .ok (.imul, 1) := by decide +kernel
theorem dL_step_158 : decode cL_step 158 = .ok (.iload 8, 2) := by decide +kernel
theorem dL_step_160 : decode cL_step 160 = .ok (.iconst 1, 1) := by decide +kernel
theorem dL_step_161 : decode cL_step 161 = .ok (.if_icmp .ne 7, 3) := by decide +kernel
theorem dL_step_164 : decode cL_step 164 = .ok (.iconst 3, 1) := by decide +kernel
theorem dL_step_165 : decode cL_step 165 = .ok (.goto 15, 3) := by decide +kernel
theorem dL_step_168 : decode cL_step 168 = .ok (.iload 8, 2) := by decide +kernel
theorem dL_step_170 : decode cL_step 170 = .ok (.iconst 2, 1) := by decide +kernel
theorem dL_step_171 : decode cL_step 171 = .ok (.if_icmp .ne 8, 3) := by decide +kernel
theorem dL_step_174 : decode cL_step 174 = .ok (.bipush 6, 2) := by decide +kernel
theorem dL_step_176 : decode cL_step 176 = .ok (.goto 4, 3) := by decide +kernel
theorem dL_step_179 : decode cL_step 179 = .ok (.iconst 2, 1) := by decide +kernel
theorem dL_step_180 : decode cL_step 180 = .ok (.idiv, 1) := by decide +kernel
theorem dL_step_181 : decode cL_step 181 = .ok (.if_icmp .ne 76, 3) := by decide +kernel
theorem dL_step_184 : decode cL_step 184 = .ok (.aload_n 0, 1) := by decide +kernel
theorem dL_step_185 : decode cL_step 185 = .ok (.iload 6, 2) := by decide +kernel
theorem dL_step_187 : decode cL_step 187 = .ok (.iconst 0, 1) := by decide +kernel
theorem dL_step_188 : decode cL_step 188 = .ok (.invokevirtual 45, 3) := by decide +kernel
theorem dL_step_191 : decode cL_step 191 = .ok (.iload 4, 2) := by decide +kernel
theorem dL_step_193 : decode cL_step 193 = .ok (.bipush 6, 2) := by decide +kernel
theorem dL_step_195 : decode cL_step 195 = .ok (.idiv, 1) := by decide +kernel
theorem dL_step_196 : decode cL_step 196 = .ok (.sipush 1999, 3) := by decide +kernel
theorem dL_step_199 : decode cL_step 199 = .ok (.irem, 1) := by decide +kernel
theorem dL_step_200 : decode cL_step 200 = .ok (.sipush 999, 3) := by decide +kernel
theorem dL_step_203 : decode cL_step 203 = .ok (.isub, 1) := by decide +kernel
theorem dL_step_204 : decode cL_step 204 = .ok (.if_icmp .ne 53, 3) := by decide +kernel
theorem dL_step_207 : decode cL_step 207 = .ok (.aload_n 0, 1) := by decide +kernel
theorem dL_step_208 : decode cL_step 208 = .ok (.iload 6, 2) := by decide +kernel
theorem dL_step_210 : decode cL_step 210 = .ok (.iconst 1, 1) := by decide +kernel
theorem dL_step_211 : decode cL_step 211 = .ok (.invokevirtual 45, 3) := by decide +kernel
theorem dL_step_214 : decode cL_step 214 = .ok (.iload 10, 2) := by decide +kernel
theorem dL_step_216 : decode cL_step 216 = .ok (.if_icmp .ne 41, 3) := by decide +kernel
theorem dL_step_219 : decode cL_step 219 = .ok (.aload_n 0, 1) := by decide +kernel
theorem dL_step_220 : decode cL_step 220 = .ok (.iload 6, 2) := by decide +kernel
theorem dL_step_222 : decode cL_step 222 = .ok (.iconst 2, 1) := by decide +kernel
theorem dL_step_223 : decode cL_step 223 = .ok (.invokevirtual 45, 3) := by decide +kernel
theorem dL_step_226 : decode cL_step 226 = .ok (.iload 8, 2) := by decide +kernel
theorem dL_step_228 : decode cL_step 228 = .ok (.if_icmp .ne 29, 3) := by decide +kernel
theorem dL_step_231 : decode cL_step 231 = .ok (.aload_n 0, 1) := by decide +kernel
theorem dL_step_232 : decode cL_step 232 = .ok (.iload 6, 2) := by decide +kernel
theorem dL_step_234 : decode cL_step 234 = .ok (.iconst 3, 1) := by decide +kernel
theorem dL_step_235 : decode cL_step 235 = .ok (.invokevirtual 45, 3) := by decide +kernel
theorem dL_step_238 : decode cL_step 238 = .ok (.ifCond .ne 19, 3) := by decide +kernel
theorem dL_step_241 : decode cL_step 241 = .ok (.aload_n 0, 1) := by decide +kernel
theorem dL_step_242 : decode cL_step 242 = .ok (.iload 6, 2) := by decide +kernel
theorem dL_step_244 : decode cL_step 244 = .ok (.iconst 4, 1) := by decide +kernel
theorem dL_step_245 : decode cL_step 245 = .ok (.invokevirtual 45, 3) := by decide +kernel
theorem dL_step_248 : decode cL_step 248 = .ok (.iload 9, 2) := by decide +kernel
theorem dL_step_250 : decode cL_step 250 = .ok (.if_icmp .ne 7, 3) := by decide +kernel
theorem dL_step_253 : decode cL_step 253 = .ok (.iconst 1, 1) := by decide +kernel
theorem dL_step_254 : decode cL_step 254 = .ok (.goto 4, 3) := by decide +kernel
theorem dL_step_257 : decode cL_step 257 = .ok (.iconst 0, 1) := by decide +kernel
theorem dL_step_258 : decode cL_step 258 = .ok (.ireturn, 1) := by decide +kernel
theorem dL_step_259 : decode cL_step 259 = .ok (.aload_n 0, 1) := by decide +kernel
theorem dL_step_260 : decode cL_step 260 = .ok (.iload 6, 2) := by decide +kernel
theorem dL_step_262 : decode cL_step 262 = .ok (.iload 5, 2) := by decide +kernel
theorem dL_step_264 : decode cL_step 264 = .ok (.sipush 1999, 3) := by decide +kernel
theorem dL_step_267 : decode cL_step 267 = .ok (.irem, 1) := by decide +kernel
theorem dL_step_268 : decode cL_step 268 = .ok (.sipush 999, 3) := by decide +kernel
theorem dL_step_271 : decode cL_step 271 = .ok (.isub, 1) := by decide +kernel
theorem dL_step_272 : decode cL_step 272 = .ok (.invokestatic 48, 3) := by decide +kernel
theorem dL_step_275 : decode cL_step 275 = .ok (.istore 11, 2) := by decide +kernel
theorem dL_step_277 : decode cL_step 277 = .ok (.iload 11, 2) := by decide +kernel
theorem dL_step_279 : decode cL_step 279 = .ok (.bipush (-2), 2) := by decide +kernel
theorem dL_step_281 : decode cL_step 281 = .ok (.if_icmp .ne 18, 3) := by decide +kernel
theorem dL_step_284 : decode cL_step 284 = .ok (.aload_n 2, 1) := by decide +kernel
theorem dL_step_285 : decode cL_step 285 = .ok (.iload 6, 2) := by decide +kernel
theorem dL_step_287 : decode cL_step 287 = .ok (.iaload, 1) := by decide +kernel
theorem dL_step_288 : decode cL_step 288 = .ok (.bipush 8, 2) := by decide +kernel
theorem dL_step_290 : decode cL_step 290 = .ok (.if_icmp .ne 7, 3) := by decide +kernel
theorem dL_step_293 : decode cL_step 293 = .ok (.iconst 1, 1) := by decide +kernel
theorem dL_step_294 : decode cL_step 294 = .ok (.goto 4, 3) := by decide +kernel
theorem dL_step_297 : decode cL_step 297 = .ok (.iconst 0, 1) := by decide +kernel
theorem dL_step_298 : decode cL_step 298 = .ok (.ireturn, 1) := by decide +kernel
theorem dL_step_299 : decode cL_step 299 = .ok (.aload_n 2, 1) := by decide +kernel
theorem dL_step_300 : decode cL_step 300 = .ok (.iload 6, 2) := by decide +kernel
theorem dL_step_302 : decode cL_step 302 = .ok (.dup2, 1) := by decide +kernel
theorem dL_step_303 : decode cL_step 303 = .ok (.iaload, 1) := by decide +kernel
theorem dL_step_304 : decode cL_step 304 = .ok (.iconst 1, 1) := by decide +kernel
theorem dL_step_305 : decode cL_step 305 = .ok (.iadd, 1) := by decide +kernel
theorem dL_step_306 : decode cL_step 306 = .ok (.iastore, 1) := by decide +kernel
theorem dL_step_307 : decode cL_step 307 = .ok (.iload 11, 2) := by decide +kernel
theorem dL_step_309 : decode cL_step 309 = .ok (.ifCond .lt 93, 3) := by decide +kernel
theorem dL_step_312 : decode cL_step 312 = .ok (.aload_n 0, 1) := by decide +kernel
theorem dL_step_313 : decode cL_step 313 = .ok (.iload 6, 2) := by decide +kernel
theorem dL_step_315 : decode cL_step 315 = .ok (.iconst 1, 1) := by decide +kernel
theorem dL_step_316 : decode cL_step 316 = .ok (.invokevirtual 45, 3) := by decide +kernel
theorem dL_step_319 : decode cL_step 319 = .ok (.iload 11, 2) := by decide +kernel
theorem dL_step_321 : decode cL_step 321 = .ok (.if_icmp .ne 81, 3) := by decide +kernel
theorem dL_step_324 : decode cL_step 324 = .ok (.aload_n 0, 1) := by decide +kernel
theorem dL_step_325 : decode cL_step 325 = .ok (.iload 6, 2) := by decide +kernel
theorem dL_step_327 : decode cL_step 327 = .ok (.iconst 2, 1) := by decide +kernel
theorem dL_step_328 : decode cL_step 328 = .ok (.invokevirtual 45, 3) := by decide +kernel
theorem dL_step_331 : decode cL_step 331 = .ok (.iconst 4, 1) := by decide +kernel
theorem dL_step_332 : decode cL_step 332 = .ok (.if_icmp .ne 70, 3) := by decide +kernel
theorem dL_step_335 : decode cL_step 335 = .ok (.aload_n 0, 1) := by decide +kernel
theorem dL_step_336 : decode cL_step 336 = .ok (.iload 6, 2) := by decide +kernel
theorem dL_step_338 : decode cL_step 338 = .ok (.iconst 3, 1) := by decide +kernel
theorem dL_step_339 : decode cL_step 339 = .ok (.invokevirtual 45, 3) := by decide +kernel
theorem dL_step_342 : decode cL_step 342 = .ok (.aload_n 2, 1) := by decide +kernel
theorem dL_step_343 : decode cL_step 343 = .ok (.iload 6, 2) := by decide +kernel
theorem dL_step_345 : decode cL_step 345 = .ok (.iaload, 1) := by decide +kernel
theorem dL_step_346 : decode cL_step 346 = .ok (.iconst 1, 1) := by decide +kernel
theorem dL_step_347 : decode cL_step 347 = .ok (.isub, 1) := by decide +kernel
theorem dL_step_348 : decode cL_step 348 = .ok (.if_icmp .ne 54, 3) := by decide +kernel
theorem dL_step_351 : decode cL_step 351 = .ok (.aload_n 0, 1) := by decide +kernel
theorem dL_step_352 : decode cL_step 352 = .ok (.iload 6, 2) := by decide +kernel
theorem dL_step_354 : decode cL_step 354 = .ok (.iconst 4, 1) := by decide +kernel
theorem dL_step_355 : decode cL_step 355 = .ok (.invokevirtual 45, 3) := by decide +kernel
theorem dL_step_358 : decode cL_step 358 = .ok (.aload_n 2, 1) := by decide +kernel
theorem dL_step_359 : decode cL_step 359 = .ok (.iload 6, 2) := by decide +kernel
theorem dL_step_361 : decode cL_step 361 = .ok (.iaload, 1) := by decide +kernel
theorem dL_step_362 : decode cL_step 362 = .ok (.if_icmp .ne 40, 3) := by decide +kernel
theorem dL_step_365 : decode cL_step 365 = .ok (.aload_n 2, 1) := by decide +kernel
theorem dL_step_366 : decode cL_step 366 = .ok (.iload 6, 2) := by decide +kernel
theorem dL_step_368 : decode cL_step 368 = .ok (.iaload, 1) := by decide +kernel
theorem dL_step_369 : decode cL_step 369 = .ok (.iconst 1, 1) := by decide +kernel
theorem dL_step_370 : decode cL_step 370 = .ok (.if_icmp .gt 28, 3) := by decide +kernel
theorem dL_step_373 : decode cL_step 373 = .ok (.aload_n 0, 1) := by decide +kernel
theorem dL_step_374 : decode cL_step 374 = .ok (.iload 6, 2) := by decide +kernel
theorem dL_step_376 : decode cL_step 376 = .ok (.iconst 0, 1) := by decide +kernel
theorem dL_step_377 : decode cL_step 377 = .ok (.invokevirtual 45, 3) := by decide +kernel
theorem dL_step_380 : decode cL_step 380 = .ok (.iload 5, 2) := by decide +kernel
theorem dL_step_382 : decode cL_step 382 = .ok (.sipush 1999, 3) := by decide +kernel
theorem dL_step_385 : decode cL_step 385 = .ok (.irem, 1) := by decide +kernel
theorem dL_step_386 : decode cL_step 386 = .ok (.sipush 999, 3) := by decide +kernel
theorem dL_step_389 : decode cL_step 389 = .ok (.isub, 1) := by decide +kernel
theorem dL_step_390 : decode cL_step 390 = .ok (.if_icmp .ne 12, 3) := by decide +kernel
theorem dL_step_393 : decode cL_step 393 = .ok (.iload 11, 2) := by decide +kernel
theorem dL_step_395 : decode cL_step 395 = .ok (.ifCond .ne 7, 3) := by decide +kernel
theorem dL_step_398 : decode cL_step 398 = .ok (.iconst 1, 1) := by decide +kernel
theorem dL_step_399 : decode cL_step 399 = .ok (.goto 4, 3) := by decide +kernel
theorem dL_step_402 : decode cL_step 402 = .ok (.iconst 0, 1) := by decide +kernel
theorem dL_step_403 : decode cL_step 403 = .ok (.ireturn, 1) := by decide +kernel
theorem dL_step_404 : decode cL_step 404 = .ok (.aload_n 0, 1) := by decide +kernel
theorem dL_step_405 : decode cL_step 405 = .ok (.iload 6, 2) := by decide +kernel
theorem dL_step_407 : decode cL_step 407 = .ok (.iload 5, 2) := by decide +kernel
theorem dL_step_409 : decode cL_step 409 = .ok (.bipush 7, 2) := by decide +kernel
theorem dL_step_411 : decode cL_step 411 = .ok (.irem, 1) := by decide +kernel
theorem dL_step_412 : decode cL_step 412 = .ok (.iconst 3, 1) := by decide +kernel
theorem dL_step_413 : decode cL_step 413 = .ok (.isub, 1) := by decide +kernel
theorem dL_step_414 : decode cL_step 414 = .ok (.iload 5, 2) := by decide +kernel
theorem dL_step_416 : decode cL_step 416 = .ok (.bipush 7, 2) := by decide +kernel
theorem dL_step_418 : decode cL_step 418 = .ok (.idiv, 1) := by decide +kernel
theorem dL_step_419 : decode cL_step 419 = .ok (.bipush 7, 2) := by decide +kernel
theorem dL_step_421 : decode cL_step 421 = .ok (.irem, 1) := by decide +kernel
theorem dL_step_422 : decode cL_step 422 = .ok (.iconst 3, 1) := by decide +kernel
theorem dL_step_423 : decode cL_step 423 = .ok (.isub, 1) := by decide +kernel
theorem dL_step_424 : decode cL_step 424 = .ok (.invokevirtual 54, 3) := by decide +kernel
theorem dL_step_427 : decode cL_step 427 = .ok (.istore 12, 2) := by decide +kernel
theorem dL_step_429 : decode cL_step 429 = .ok (.iconst 0, 1) := by decide +kernel
theorem dL_step_430 : decode cL_step 430 = .ok (.istore 13, 2) := by decide +kernel
theorem dL_step_432 : decode cL_step 432 = .ok (.iconst 0, 1) := by decide +kernel
theorem dL_step_433 : decode cL_step 433 = .ok (.istore 14, 2) := by decide +kernel
theorem dL_step_435 : decode cL_step 435 = .ok (.iload 14, 2) := by decide +kernel
theorem dL_step_437 : decode cL_step 437 = .ok (.aload_n 1, 1) := by decide +kernel
theorem dL_step_438 : decode cL_step 438 = .ok (.iconst 0, 1) := by decide +kernel
theorem dL_step_439 : decode cL_step 439 = .ok (.iaload, 1) := by decide +kernel
theorem dL_step_440 : decode cL_step 440 = .ok (.if_icmp .ge 29, 3) := by decide +kernel
theorem dL_step_443 : decode cL_step 443 = .ok (.iload 13, 2) := by decide +kernel
theorem dL_step_445 : decode cL_step 445 = .ok (.aload_n 0, 1) := by decide +kernel
theorem dL_step_446 : decode cL_step 446 = .ok (.iload 14, 2) := by decide +kernel
theorem dL_step_448 : decode cL_step 448 = .ok (.invokevirtual 58, 3) := by decide +kernel
theorem dL_step_451 : decode cL_step 451 = .ok (.iconst (-1), 1) := by decide +kernel
theorem dL_step_452 : decode cL_step 452 = .ok (.if_icmp .ne 7, 3) := by decide +kernel
theorem dL_step_455 : decode cL_step 455 = .ok (.iconst 0, 1) := by decide +kernel
theorem dL_step_456 : decode cL_step 456 = .ok (.goto 4, 3) := by decide +kernel
theorem dL_step_459 : decode cL_step 459 = .ok (.iconst 1, 1) := by decide +kernel
theorem dL_step_460 : decode cL_step 460 = .ok (.iadd, 1) := by decide +kernel
theorem dL_step_461 : decode cL_step 461 = .ok (.istore 13, 2) := by decide +kernel
theorem dL_step_463 : decode cL_step 463 = .ok (.iinc 14 1, 3) := by decide +kernel
theorem dL_step_466 : decode cL_step 466 = .ok (.goto (-31), 3) := by decide +kernel
theorem dL_step_469 : decode cL_step 469 = .ok (.iload 12, 2) := by decide +kernel
theorem dL_step_471 : decode cL_step 471 = .ok (.iload 13, 2) := by decide +kernel
theorem dL_step_473 : decode cL_step 473 = .ok (.if_icmp .ne 7, 3) := by decide +kernel
theorem dL_step_476 : decode cL_step 476 = .ok (.iconst 1, 1) := by decide +kernel
theorem dL_step_477 : decode cL_step 477 = .ok (.goto 4, 3) := by decide +kernel
theorem dL_step_480 : decode cL_step 480 = .ok (.iconst 0, 1) := by decide +kernel
theorem dL_step_481 : decode cL_step 481 = .ok (.ireturn, 1) := by decide +kernel
theorem dL_step_482 : decode cL_step 482 = .ok (.aload_n 0, 1) := by decide +kernel
theorem dL_step_483 : decode cL_step 483 = .ok (.iload 6, 2) := by decide +kernel
theorem dL_step_485 : decode cL_step 485 = .ok (.iload 7, 2) := by decide +kernel
theorem dL_step_487 : decode cL_step 487 = .ok (.iload 5, 2) := by decide +kernel
theorem dL_step_489 : decode cL_step 489 = .ok (.iconst 5, 1) := by decide +kernel
theorem dL_step_490 : decode cL_step 490 = .ok (.idiv, 1) := by decide +kernel
theorem dL_step_491 : decode cL_step 491 = .ok (.sipush 19999, 3) := by decide +kernel
theorem dL_step_494 : decode cL_step 494 = .ok (.irem, 1) := by decide +kernel
theorem dL_step_495 : decode cL_step 495 = .ok (.sipush 9999, 3) := by decide +kernel
theorem dL_step_498 : decode cL_step 498 = .ok (.isub, 1) := by decide +kernel
theorem dL_step_499 : decode cL_step 499 = .ok (.invokevirtual 62, 3) := by decide +kernel
theorem dL_step_502 : decode cL_step 502 = .ok (.istore 14, 2) := by decide +kernel
theorem dL_step_504 : decode cL_step 504 = .ok (.iload 14, 2) := by decide +kernel
theorem dL_step_506 : decode cL_step 506 = .ok (.sipush (-9999), 3) := by decide +kernel
theorem dL_step_509 : decode cL_step 509 = .ok (.if_icmp .lt 50, 3) := by decide +kernel
theorem dL_step_512 : decode cL_step 512 = .ok (.iload 14, 2) := by decide +kernel
theorem dL_step_514 : decode cL_step 514 = .ok (.sipush 9999, 3) := by decide +kernel
theorem dL_step_517 : decode cL_step 517 = .ok (.if_icmp .gt 42, 3) := by decide +kernel
theorem dL_step_520 : decode cL_step 520 = .ok (.aload_n 0, 1) := by decide +kernel
theorem dL_step_521 : decode cL_step 521 = .ok (.iload 7, 2) := by decide +kernel
theorem dL_step_523 : decode cL_step 523 = .ok (.iload 6, 2) := by decide +kernel
theorem dL_step_525 : decode cL_step 525 = .ok (.iload 5, 2) := by decide +kernel
theorem dL_step_527 : decode cL_step 527 = .ok (.iconst 5, 1) := by decide +kernel
theorem dL_step_528 : decode cL_step 528 = .ok (.idiv, 1) := by decide +kernel
theorem dL_step_529 : decode cL_step 529 = .ok (.sipush 19999, 3) := by decide +kernel
theorem dL_step_532 : decode cL_step 532 = .ok (.irem, 1) := by decide +kernel
theorem dL_step_533 : decode cL_step 533 = .ok (.sipush 9999, 3) := by decide +kernel
theorem dL_step_536 : decode cL_step 536 = .ok (.isub, 1) := by decide +kernel
theorem dL_step_537 : decode cL_step 537 = .ok (.invokevirtual 62, 3) := by decide +kernel
theorem dL_step_540 : decode cL_step 540 = .ok (.iload 5, 2) := by decide +kernel
theorem dL_step_542 : decode cL_step 542 = .ok (.iconst 5, 1) := by decide +kernel
theorem dL_step_543 : decode cL_step 543 = .ok (.idiv, 1) := by decide +kernel
theorem dL_step_544 : decode cL_step 544 = .ok (.sipush 19999, 3) := by decide +kernel
theorem dL_step_547 : decode cL_step 547 = .ok (.irem, 1) := by decide +kernel
theorem dL_step_548 : decode cL_step 548 = .ok (.sipush 9999, 3) := by decide +kernel
theorem dL_step_551 : decode cL_step 551 = .ok (.isub, 1) := by decide +kernel
theorem dL_step_552 : decode cL_step 552 = .ok (.if_icmp .ne 7, 3) := by decide +kernel
theorem dL_step_555 : decode cL_step 555 = .ok (.iconst 1, 1) := by decide +kernel
theorem dL_step_556 : decode cL_step 556 = .ok (.goto 4, 3) := by decide +kernel
theorem dL_step_559 : decode cL_step 559 = .ok (.iconst 0, 1) := by decide +kernel
theorem dL_step_560 : decode cL_step 560 = .ok (.ireturn, 1) := by decide +kernel
theorem dL_step_561 : decode cL_step 561 = .ok (.aload_n 0, 1) := by decide +kernel
theorem dL_step_562 : decode cL_step 562 = .ok (.aload_n 1, 1) := by decide +kernel
theorem dL_step_563 : decode cL_step 563 = .ok (.iload 4, 2) := by decide +kernel
theorem dL_step_565 : decode cL_step 565 = .ok (.iload 5, 2) := by decide +kernel
theorem dL_step_567 : decode cL_step 567 = .ok (.invokestatic 65, 3) := by decide +kernel
theorem dL_step_570 : decode cL_step 570 = .ok (.ireturn, 1) := by decide +kernel
theorem dL_step_571 : decode cL_step 571 = .ok (.aload_n 0, 1) := by decide +kernel
theorem dL_step_572 : decode cL_step 572 = .ok (.iconst 1, 1) := by decide +kernel
theorem dL_step_573 : decode cL_step 573 = .ok (.iload 4, 2) := by decide +kernel
theorem dL_step_575 : decode cL_step 575 = .ok (.bipush 30, 2) := by decide +kernel
theorem dL_step_577 : decode cL_step 577 = .ok (.irem, 1) := by decide +kernel
theorem dL_step_578 : decode cL_step 578 = .ok (.iadd, 1) := by decide +kernel
theorem dL_step_579 : decode cL_step 579 = .ok (.iload 5, 2) := by decide +kernel
theorem dL_step_581 : decode cL_step 581 = .ok (.iconst 5, 1) := by decide +kernel
theorem dL_step_582 : decode cL_step 582 = .ok (.irem, 1) := by decide +kernel
theorem dL_step_583 : decode cL_step 583 = .ok (.ifCond .ne 7, 3) := by decide +kernel
theorem dL_step_586 : decode cL_step 586 = .ok (.iconst (-1), 1) := by decide +kernel
theorem dL_step_587 : decode cL_step 587 = .ok (.goto 11, 3) := by decide +kernel
theorem dL_step_590 : decode cL_step 590 = .ok (.iload 5, 2) := by decide +kernel
theorem dL_step_592 : decode cL_step 592 = .ok (.iconst 5, 1) := by decide +kernel
theorem dL_step_593 : decode cL_step 593 = .ok (.idiv, 1) := by decide +kernel
theorem dL_step_594 : decode cL_step 594 = .ok (.sipush 1000, 3) := by decide +kernel
theorem dL_step_597 : decode cL_step 597 = .ok (.irem, 1) := by decide +kernel
theorem dL_step_598 : decode cL_step 598 = .ok (.invokestatic 69, 3) := by decide +kernel
theorem dL_step_601 : decode cL_step 601 = .ok (.istore 15, 2) := by decide +kernel
theorem dL_step_603 : decode cL_step 603 = .ok (.iload 15, 2) := by decide +kernel
theorem dL_step_605 : decode cL_step 605 = .ok (.bipush (-2), 2) := by decide +kernel
theorem dL_step_607 : decode cL_step 607 = .ok (.if_icmp .ne 19, 3) := by decide +kernel
theorem dL_step_610 : decode cL_step 610 = .ok (.aload_n 1, 1) := by decide +kernel
theorem dL_step_611 : decode cL_step 611 = .ok (.iconst 1, 1) := by decide +kernel
theorem dL_step_612 : decode cL_step 612 = .ok (.iaload, 1) := by decide +kernel
theorem dL_step_613 : decode cL_step 613 = .ok (.bipush 12, 2) := by decide +kernel
theorem dL_step_615 : decode cL_step 615 = .ok (.if_icmp .ne 7, 3) := by decide +kernel
theorem dL_step_618 : decode cL_step 618 = .ok (.iconst 1, 1) := by decide +kernel
theorem dL_step_619 : decode cL_step 619 = .ok (.goto 44, 3) := by decide +kernel
theorem dL_step_622 : decode cL_step 622 = .ok (.iconst 0, 1) := by decide +kernel
theorem dL_step_623 : decode cL_step 623 = .ok (.goto 40, 3) := by decide +kernel
theorem dL_step_626 : decode cL_step 626 = .ok (.iload 15, 2) := by decide +kernel
theorem dL_step_628 : decode cL_step 628 = .ok (.ifCond .lt 34, 3) := by decide +kernel
theorem dL_step_631 : decode cL_step 631 = .ok (.iload 15, 2) := by decide +kernel
theorem dL_step_633 : decode cL_step 633 = .ok (.bipush 12, 2) := by decide +kernel
theorem dL_step_635 : decode cL_step 635 = .ok (.if_icmp .gt 27, 3) := by decide +kernel
theorem dL_step_638 : decode cL_step 638 = .ok (.iload 15, 2) := by decide +kernel
theorem dL_step_640 : decode cL_step 640 = .ok (.aload_n 1, 1) := by decide +kernel
theorem dL_step_641 : decode cL_step 641 = .ok (.iconst 1, 1) := by decide +kernel
theorem dL_step_642 : decode cL_step 642 = .ok (.iaload, 1) := by decide +kernel
theorem dL_step_643 : decode cL_step 643 = .ok (.isub, 1) := by decide +kernel
theorem dL_step_644 : decode cL_step 644 = .ok (.iconst 1, 1) := by decide +kernel
theorem dL_step_645 : decode cL_step 645 = .ok (.if_icmp .gt 17, 3) := by decide +kernel
theorem dL_step_648 : decode cL_step 648 = .ok (.aload_n 1, 1) := by decide +kernel
theorem dL_step_649 : decode cL_step 649 = .ok (.iconst 1, 1) := by decide +kernel
theorem dL_step_650 : decode cL_step 650 = .ok (.iaload, 1) := by decide +kernel
theorem dL_step_651 : decode cL_step 651 = .ok (.iload 15, 2) := by decide +kernel
theorem dL_step_653 : decode cL_step 653 = .ok (.isub, 1) := by decide +kernel
theorem dL_step_654 : decode cL_step 654 = .ok (.iconst 1, 1) := by decide +kernel
theorem dL_step_655 : decode cL_step 655 = .ok (.if_icmp .gt 7, 3) := by decide +kernel
theorem dL_step_658 : decode cL_step 658 = .ok (.iconst 1, 1) := by decide +kernel
theorem dL_step_659 : decode cL_step 659 = .ok (.goto 4, 3) := by decide +kernel
theorem dL_step_662 : decode cL_step 662 = .ok (.iconst 0, 1) := by decide +kernel
theorem dL_step_663 : decode cL_step 663 = .ok (.istore 16, 2) := by decide +kernel
theorem dL_step_665 : decode cL_step 665 = .ok (.aload_n 1, 1) := by decide +kernel
theorem dL_step_666 : decode cL_step 666 = .ok (.iconst 1, 1) := by decide +kernel
theorem dL_step_667 : decode cL_step 667 = .ok (.iload 15, 2) := by decide +kernel
theorem dL_step_669 : decode cL_step 669 = .ok (.bipush (-2), 2) := by decide +kernel
theorem dL_step_671 : decode cL_step 671 = .ok (.if_icmp .ne 9, 3) := by decide +kernel
theorem dL_step_674 : decode cL_step 674 = .ok (.aload_n 1, 1) := by decide +kernel
theorem dL_step_675 : decode cL_step 675 = .ok (.iconst 1, 1) := by decide +kernel
theorem dL_step_676 : decode cL_step 676 = .ok (.iaload, 1) := by decide +kernel
theorem dL_step_677 : decode cL_step 677 = .ok (.goto 5, 3) := by decide +kernel
theorem dL_step_680 : decode cL_step 680 = .ok (.iload 15, 2) := by decide +kernel
theorem dL_step_682 : decode cL_step 682 = .ok (.iastore, 1) := by decide +kernel
theorem dL_step_683 : decode cL_step 683 = .ok (.iload 16, 2) := by decide +kernel
theorem dL_step_685 : decode cL_step 685 = .ok (.ireturn, 1) := by decide +kernel
theorem dL_step_686 : decode cL_step 686 = .ok (.aload_n 0, 1) := by decide +kernel
theorem dL_step_687 : decode cL_step 687 = .ok (.iload 5, 2) := by decide +kernel
theorem dL_step_689 : decode cL_step 689 = .ok (.ldc 72, 2) := by decide +kernel
theorem dL_step_691 : decode cL_step 691 = .ok (.irem, 1) := by decide +kernel
theorem dL_step_692 : decode cL_step 692 = .ok (.invokevirtual 73, 3) := by decide +kernel
theorem dL_step_695 : decode cL_step 695 = .ok (.istore 17, 2) := by decide +kernel
theorem dL_step_697 : decode cL_step 697 = .ok (.iload 17, 2) := by decide +kernel
theorem dL_step_699 : decode cL_step 699 = .ok (.aload_n 1, 1) := by decide +kernel
theorem dL_step_700 : decode cL_step 700 = .ok (.iconst 2, 1) := by decide +kernel
theorem dL_step_701 : decode cL_step 701 = .ok (.iaload, 1) := by decide +kernel
theorem dL_step_702 : decode cL_step 702 = .ok (.if_icmp .eq 10, 3) := by decide +kernel
theorem dL_step_705 : decode cL_step 705 = .ok (.aload_n 1, 1) := by decide +kernel
theorem dL_step_706 : decode cL_step 706 = .ok (.iconst 2, 1) := by decide +kernel
theorem dL_step_707 : decode cL_step 707 = .ok (.iaload, 1) := by decide +kernel
theorem dL_step_708 : decode cL_step 708 = .ok (.iconst (-1), 1) := by decide +kernel
theorem dL_step_709 : decode cL_step 709 = .ok (.if_icmp .ne 7, 3) := by decide +kernel
theorem dL_step_712 : decode cL_step 712 = .ok (.iconst 1, 1) := by decide +kernel
theorem dL_step_713 : decode cL_step 713 = .ok (.goto 4, 3) := by decide +kernel
theorem dL_step_716 : decode cL_step 716 = .ok (.iconst 0, 1) := by decide +kernel
theorem dL_step_717 : decode cL_step 717 = .ok (.istore 16, 2) := by decide +kernel
theorem dL_step_719 : decode cL_step 719 = .ok (.aload_n 1, 1) := by decide +kernel
theorem dL_step_720 : decode cL_step 720 = .ok (.iconst 2, 1) := by decide +kernel
theorem dL_step_721 : decode cL_step 721 = .ok (.iload 5, 2) := by decide +kernel
theorem dL_step_723 : decode cL_step 723 = .ok (.ldc 72, 2) := by decide +kernel
theorem dL_step_725 : decode cL_step 725 = .ok (.irem, 1) := by decide +kernel
theorem dL_step_726 : decode cL_step 726 = .ok (.iastore, 1) := by decide +kernel
theorem dL_step_727 : decode cL_step 727 = .ok (.iload 16, 2) := by decide +kernel
theorem dL_step_729 : decode cL_step 729 = .ok (.ifCond .eq 19, 3) := by decide +kernel
theorem dL_step_732 : decode cL_step 732 = .ok (.iload 17, 2) := by decide +kernel
theorem dL_step_734 : decode cL_step 734 = .ok (.ifCond .lt 14, 3) := by decide +kernel
theorem dL_step_737 : decode cL_step 737 = .ok (.iload 17, 2) := by decide +kernel
theorem dL_step_739 : decode cL_step 739 = .ok (.ldc 72, 2) := by decide +kernel
theorem dL_step_741 : decode cL_step 741 = .ok (.if_icmp .ge 7, 3) := by decide +kernel
theorem dL_step_744 : decode cL_step 744 = .ok (.iconst 1, 1) := by decide +kernel
theorem dL_step_745 : decode cL_step 745 = .ok (.goto 4, 3) := by decide +kernel
theorem dL_step_748 : decode cL_step 748 = .ok (.iconst 0, 1) := by decide +kernel
theorem dL_step_749 : decode cL_step 749 = .ok (.ireturn, 1) := by decide +kernel
theorem dL_step_750 : decode cL_step 750 = .ok (.aload_n 1, 1) := by decide +kernel
theorem dL_step_751 : decode cL_step 751 = .ok (.iconst 0, 1) := by decide +kernel
theorem dL_step_752 : decode cL_step 752 = .ok (.iaload, 1) := by decide +kernel
theorem dL_step_753 : decode cL_step 753 = .ok (.ifCond .ne 5, 3) := by decide +kernel
theorem dL_step_756 : decode cL_step 756 = .ok (.iconst 1, 1) := by decide +kernel
theorem dL_step_757 : decode cL_step 757 = .ok (.ireturn, 1) := by decide +kernel
theorem dL_step_758 : decode cL_step 758 = .ok (.aload_n 0, 1) := by decide +kernel
theorem dL_step_759 : decode cL_step 759 = .ok (.iload 4, 2) := by decide +kernel
theorem dL_step_761 : decode cL_step 761 = .ok (.aload_n 1, 1) := by decide +kernel
theorem dL_step_762 : decode cL_step 762 = .ok (.iconst 0, 1) := by decide +kernel
theorem dL_step_763 : decode cL_step 763 = .ok (.iaload, 1) := by decide +kernel
theorem dL_step_764 : decode cL_step 764 = .ok (.irem, 1) := by decide +kernel
theorem dL_step_765 : decode cL_step 765 = .ok (.iconst 1, 1) := by decide +kernel
theorem dL_step_766 : decode cL_step 766 = .ok (.iload 5, 2) := by decide +kernel
theorem dL_step_768 : decode cL_step 768 = .ok (.bipush 100, 2) := by decide +kernel
theorem dL_step_770 : decode cL_step 770 = .ok (.irem, 1) := by decide +kernel
theorem dL_step_771 : decode cL_step 771 = .ok (.iadd, 1) := by decide +kernel
theorem dL_step_772 : decode cL_step 772 = .ok (.invokevirtual 76, 3) := by decide +kernel
theorem dL_step_775 : decode cL_step 775 = .ok (.istore 18, 2) := by decide +kernel
theorem dL_step_777 : decode cL_step 777 = .ok (.aload_n 0, 1) := by decide +kernel
theorem dL_step_778 : decode cL_step 778 = .ok (.iload 4, 2) := by decide +kernel
theorem dL_step_780 : decode cL_step 780 = .ok (.aload_n 1, 1) := by decide +kernel
theorem dL_step_781 : decode cL_step 781 = .ok (.iconst 0, 1) := by decide +kernel
theorem dL_step_782 : decode cL_step 782 = .ok (.iaload, 1) := by decide +kernel
theorem dL_step_783 : decode cL_step 783 = .ok (.irem, 1) := by decide +kernel
theorem dL_step_784 : decode cL_step 784 = .ok (.iconst 4, 1) := by decide +kernel
theorem dL_step_785 : decode cL_step 785 = .ok (.invokevirtual 79, 3) := by decide +kernel
theorem dL_step_788 : decode cL_step 788 = .ok (.ldc2_w 83, 3) := by decide +kernel
theorem dL_step_791 : decode cL_step 791 = .ok (.lcmp, 1) := by decide +kernel
theorem dL_step_792 : decode cL_step 792 = .ok (.ifCond .eq 7, 3) := by decide +kernel
theorem dL_step_795 : decode cL_step 795 = .ok (.iconst 1, 1) := by decide +kernel
theorem dL_step_796 : decode cL_step 796 = .ok (.goto 4, 3) := by decide +kernel
theorem dL_step_799 : decode cL_step 799 = .ok (.iconst 0, 1) := by decide +kernel
theorem dL_step_800 : decode cL_step 800 = .ok (.istore 19, 2) := by decide +kernel
theorem dL_step_802 : decode cL_step 802 = .ok (.aload_n 1, 1) := by decide +kernel
theorem dL_step_803 : decode cL_step 803 = .ok (.iconst 2, 1) := by decide +kernel
theorem dL_step_804 : decode cL_step 804 = .ok (.iconst (-1), 1) := by decide +kernel
theorem dL_step_805 : decode cL_step 805 = .ok (.iastore, 1) := by decide +kernel
theorem dL_step_806 : decode cL_step 806 = .ok (.iload 18, 2) := by decide +kernel
theorem dL_step_808 : decode cL_step 808 = .ok (.ifCond .lt 29, 3) := by decide +kernel
theorem dL_step_811 : decode cL_step 811 = .ok (.iload 18, 2) := by decide +kernel
theorem dL_step_813 : decode cL_step 813 = .ok (.iconst 1, 1) := by decide +kernel
theorem dL_step_814 : decode cL_step 814 = .ok (.iload 5, 2) := by decide +kernel
theorem dL_step_816 : decode cL_step 816 = .ok (.bipush 100, 2) := by decide +kernel
theorem dL_step_818 : decode cL_step 818 = .ok (.irem, 1) := by decide +kernel
theorem dL_step_819 : decode cL_step 819 = .ok (.iadd, 1) := by decide +kernel
theorem dL_step_820 : decode cL_step 820 = .ok (.if_icmp .gt 17, 3) := by decide +kernel
theorem dL_step_823 : decode cL_step 823 = .ok (.iload 19, 2) := by decide +kernel
theorem dL_step_825 : decode cL_step 825 = .ok (.ifCond .ne 8, 3) := by decide +kernel
theorem dL_step_828 : decode cL_step 828 = .ok (.iload 18, 2) := by decide +kernel
theorem dL_step_830 : decode cL_step 830 = .ok (.ifCond .ne 7, 3) := by decide +kernel
theorem dL_step_833 : decode cL_step 833 = .ok (.iconst 1, 1) := by decide +kernel
theorem dL_step_834 : decode cL_step 834 = .ok (.goto 4, 3) := by decide +kernel
theorem dL_step_837 : decode cL_step 837 = .ok (.iconst 0, 1) := by decide +kernel
theorem dL_step_838 : decode cL_step 838 = .ok (.ireturn, 1) := by decide +kernel
set_option maxRecDepth 20000 in
theorem ggL_isRead_L_types : GoodIn wsL_isRead wsL_types := goodIn_ca (goodIn_ca (goodIn_r _ [7, 8, 9, 10, 11, 12, 13, 14, 15, 16, 17, 18, 19, 20, 21, 22, 23, 24, 25, 26, 27, 28, 29, 30, 31, 32, 142, 143, 144, 145, 146, 147, 148, 149, 150, 151, 152, 153] (by decide +kernel) (by decide +kernel)) (goodIn_sub (fun _ h => List.mem_cons_of_mem _ (List.mem_append_left _ (List.mem_append_left _ (List.mem_append_right _ h)))) (by decide +kernel))) (goodIn_sub (fun _ h => List.mem_cons_of_mem _ (List.mem_append_left _ (List.mem_append_right _ h))) (by decide +kernel))
set_option maxRecDepth 20000 in
theorem gL_isRead_L_types : GoodIn wsL_isRead (va_wsS RL 89 yL_types wsL_types) := goodIn_app (goodIn_of _ (by decide +kernel)) ggL_isRead_L_types
set_option maxRecDepth 20000 in
theorem ggL_isRead_L_part : GoodIn wsL_isRead wsL_part := goodIn_r _ [35, 36, 37, 38, 39, 40, 3, 41, 42] (by decide +kernel) (by decide +kernel)
set_option maxRecDepth 20000 in
theorem gL_isRead_L_part : GoodIn wsL_isRead (va_wsS RL 93 yL_part wsL_part) := goodIn_app (goodIn_of _ (by decide +kernel)) ggL_isRead_L_part
set_option maxRecDepth 20000 in
theorem ggL_isRead_X6_model : GoodIn wsL_isRead wsX6_model := goodIn_ca (goodIn_ca (goodIn_r _ [46, 47, 48, 16, 17, 49, 18, 50, 51, 52, 53, 54, 55, 56, 57, 58, 22, 59, 60, 31, 61, 62, 63, 64, 65, 66, 67, 68, 69, 70, 71, 72, 73, 74, 75, 76, 77, 78, 32, 79, 80, 81, 82, 83, 84, 85, 86, 87, 88, 89, 90, 91, 92, 93, 94, 95, 96, 97, 98, 99, 100, 101, 102, 103, 104, 105, 106, 107, 108, 109, 110, 111, 112, 113, 114, 115, 116, 117, 118, 119, 120, 142, 143, 144, 145, 146, 147, 148, 149, 150, 154, 155, 156, 157, 158, 159, 160, 161, 162, 151, 152, 153] (by decide +kernel) (by decide +kernel)) (goodIn_sub (fun _ h => List.mem_cons_of_mem _ (List.mem_append_right _ h)) (by decide +kernel))) (goodIn_sub (fun _ h => List.mem_cons_of_mem _ (List.mem_append_left _ (List.mem_append_right _ h))) (by decide +kernel))
set_option maxRecDepth 20000 in
theorem gL_isRead_X6_model : GoodIn wsL_isRead (wsV RL 96 RX6 yX6_model wsX6_model) := goodIn_app (goodIn_of _ (by decide +kernel)) ggL_isRead_X6_model
set_option maxRecDepth 20000 in
theorem ggL_isRead_X6_value : GoodIn wsL_isRead wsX6_value := goodIn_ca (goodIn_r _ [124, 125, 126, 127, 128, 129, 12, 130, 47, 48, 51, 131, 132, 133, 54, 134, 66, 118, 67, 135, 136, 137, 138, 84, 85, 83, 139, 140, 141, 142, 143, 144, 145, 146, 147, 148, 149, 150, 163, 164, 165, 166, 167, 168, 169, 170, 171, 154, 155, 156, 157, 158, 159, 160, 161, 162] (by decide +kernel) (by decide +kernel)) (goodIn_sub (fun _ h => List.mem_cons_of_mem _ (List.mem_append_right _ h)) (by decide +kernel))
set_option maxRecDepth 20000 in
theorem gL_isRead_X6_value : GoodIn wsL_isRead (wsV RL 99 RX6 yX6_value wsX6_value) := goodIn_app (goodIn_of _ (by decide +kernel)) ggL_isRead_X6_value
theorem dL_isRead_0 : decode cL_isRead 0 = .ok (.iconst 1, 1) := by decide +kernel
theorem dL_isRead_1 : decode cL_isRead 1 = .ok (.iload_n 2, 1) := by decide +kernel
theorem dL_isRead_2 : decode cL_isRead 2 = .ok (.iconst 5, 1) := by decide +kernel
theorem dL_isRead_3 : decode cL_isRead 3 = .ok (.irem, 1) := by decide +kernel
theorem dL_isRead_4 : decode cL_isRead 4 = .ok (.iadd, 1) := by decide +kernel
theorem dL_isRead_5 : decode cL_isRead 5 = .ok (.istore 4, 2) := by decide +kernel
theorem dL_isRead_7 : decode cL_isRead 7 = .ok (.iconst 1, 1) := by decide +kernel
theorem dL_isRead_8 : decode cL_isRead 8 = .ok (.istore 5, 2) := by decide +kernel
theorem dL_isRead_10 : decode cL_isRead 10 = .ok (.iconst 0, 1) := by decide +kernel
theorem dL_isRead_11 : decode cL_isRead 11 = .ok (.istore 6, 2) := by decide +kernel
theorem dL_isRead_13 : decode cL_isRead 13 = .ok (.iload 6, 2) := by decide +kernel
theorem dL_isRead_15 : decode cL_isRead 15 = .ok (.iload 4, 2) := by decide +kernel
theorem dL_isRead_17 : decode cL_isRead 17 = .ok (.if_icmp .ge 102, 3) := by decide +kernel
theorem dL_isRead_20 : decode cL_isRead 20 = .ok (.iload 5, 2) := by decide +kernel
theorem dL_isRead_22 : decode cL_isRead 22 = .ok (.ifCond .eq 97, 3) := by decide +kernel
theorem dL_isRead_25 : decode cL_isRead 25 = .ok (.iload_n 2, 1) := by decide +kernel
theorem dL_isRead_26 : decode cL_isRead 26 = .ok (.iconst 5, 1) := by decide +kernel
theorem dL_isRead_27 : decode cL_isRead 27 = .ok (.idiv, 1) := by decide +kernel
theorem dL_isRead_28 : decode cL_isRead 28 = .ok (.iload 6, 2) := by decide +kernel
theorem dL_isRead_30 : decode cL_isRead 30 = .ok (.iconst 1, 1) := by decide +kernel
theorem dL_isRead_31 : decode cL_isRead 31 = .ok (.iadd, 1) := by decide +kernel
theorem dL_isRead_32 : decode cL_isRead 32 = .ok (.idiv, 1) := by decide +kernel
theorem dL_isRead_33 : decode cL_isRead 33 = .ok (.iconst 3, 1) := by decide +kernel
theorem dL_isRead_34 : decode cL_isRead 34 = .ok (.irem, 1) := by decide +kernel
theorem dL_isRead_35 : decode cL_isRead 35 = .ok (.istore 7, 2) := by decide +kernel
theorem dL_isRead_37 : decode cL_isRead 37 = .ok (.iload 6, 2) := by decide +kernel
theorem dL_isRead_39 : decode cL_isRead 39 = .ok (.ifCond .eq 36, 3) := by decide +kernel
theorem dL_isRead_42 : decode cL_isRead 42 = .ok (.aload_n 0, 1) := by decide +kernel
theorem dL_isRead_43 : decode cL_isRead 43 = .ok (.iload 7, 2) := by decide +kernel
theorem dL_isRead_45 : decode cL_isRead 45 = .ok (.ifCond .ne 9, 3) := by decide +kernel
theorem dL_isRead_48 : decode cL_isRead 48 = .ok (.ldc2_w 85, 3) := by decide +kernel
theorem dL_isRead_51 : decode cL_isRead 51 = .ok (.goto 18, 3) := by decide +kernel
theorem dL_isRead_54 : decode cL_isRead 54 = .ok (.iload 7, 2) := by decide +kernel
theorem dL_isRead_56 : decode cL_isRead 56 = .ok (.iconst 1, 1) := by decide +kernel
theorem dL_isRead_57 : decode cL_isRead 57 = .ok (.if_icmp .ne 9, 3) := by decide +kernel
theorem dL_isRead_60 : decode cL_isRead 60 = .ok (.ldc2_w 87, 3) := by decide +kernel
theorem dL_isRead_63 : decode cL_isRead 63 = .ok (.goto 6, 3) := by decide +kernel
theorem dL_isRead_66 : decode cL_isRead 66 = .ok (.ldc2_w 35, 3) := by decide +kernel
theorem dL_isRead_69 : decode cL_isRead 69 = .ok (.invokestatic 89, 3) := by decide +kernel
theorem dL_isRead_72 : decode cL_isRead 72 = .ok (.ifCond .le 38, 3) := by decide +kernel
theorem dL_isRead_75 : decode cL_isRead 75 = .ok (.aload_n 0, 1) := by decide +kernel
theorem dL_isRead_76 : decode cL_isRead 76 = .ok (.iload_n 2, 1) := by decide +kernel
theorem dL_isRead_77 : decode cL_isRead 77 = .ok (.iload 6, 2) := by decide +kernel
theorem dL_isRead_79 : decode cL_isRead 79 = .ok (.iconst 2, 1) := by decide +kernel
theorem dL_isRead_80 : decode cL_isRead 80 = .ok (.iadd, 1) := by decide +kernel
theorem dL_isRead_81 : decode cL_isRead 81 = .ok (.idiv, 1) := by decide +kernel
theorem dL_isRead_82 : decode cL_isRead 82 = .ok (.bipush 7, 2) := by decide +kernel
theorem dL_isRead_84 : decode cL_isRead 84 = .ok (.iload 6, 2) := by decide +kernel
theorem dL_isRead_86 : decode cL_isRead 86 = .ok (.imul, 1) := by decide +kernel
theorem dL_isRead_87 : decode cL_isRead 87 = .ok (.iadd, 1) := by decide +kernel
theorem dL_isRead_88 : decode cL_isRead 88 = .ok (.iload_n 3, 1) := by decide +kernel
theorem dL_isRead_89 : decode cL_isRead 89 = .ok (.iload 6, 2) := by decide +kernel
theorem dL_isRead_91 : decode cL_isRead 91 = .ok (.iconst 1, 1) := by decide +kernel
theorem dL_isRead_92 : decode cL_isRead 92 = .ok (.iadd, 1) := by decide +kernel
theorem dL_isRead_93 : decode cL_isRead 93 = .ok (.idiv, 1) := by decide +kernel
theorem dL_isRead_94 : decode cL_isRead 94 = .ok (.iload 6, 2) := by decide +kernel
theorem dL_isRead_96 : decode cL_isRead 96 = .ok (.iadd, 1) := by decide +kernel
theorem dL_isRead_97 : decode cL_isRead 97 = .ok (.invokestatic 93, 3) := by decide +kernel
theorem dL_isRead_100 : decode cL_isRead 100 = .ok (.invokestatic 89, 3) := by decide +kernel
theorem dL_isRead_103 : decode cL_isRead 103 = .ok (.ifCond .le 7, 3) := by decide +kernel
theorem dL_isRead_106 : decode cL_isRead 106 = .ok (.iconst 1, 1) := by decide +kernel
theorem dL_isRead_107 : decode cL_isRead 107 = .ok (.goto 4, 3) := by decide +kernel
theorem dL_isRead_110 : decode cL_isRead 110 = .ok (.iconst 0, 1) := by decide +kernel
theorem dL_isRead_111 : decode cL_isRead 111 = .ok (.istore 5, 2) := by decide +kernel
theorem dL_isRead_113 : decode cL_isRead 113 = .ok (.iinc 6 1, 3) := by decide +kernel
theorem dL_isRead_116 : decode cL_isRead 116 = .ok (.goto (-103), 3) := by decide +kernel
theorem dL_isRead_119 : decode cL_isRead 119 = .ok (.aload_n 0, 1) := by decide +kernel
theorem dL_isRead_120 : decode cL_isRead 120 = .ok (.lconst 0, 1) := by decide +kernel
theorem dL_isRead_121 : decode cL_isRead 121 = .ok (.invokestatic 89, 3) := by decide +kernel
theorem dL_isRead_124 : decode cL_isRead 124 = .ok (.istore 6, 2) := by decide +kernel
theorem dL_isRead_126 : decode cL_isRead 126 = .ok (.aload_n 1, 1) := by decide +kernel
theorem dL_isRead_127 : decode cL_isRead 127 = .ok (.iconst 0, 1) := by decide +kernel
theorem dL_isRead_128 : decode cL_isRead 128 = .ok (.iaload, 1) := by decide +kernel
theorem dL_isRead_129 : decode cL_isRead 129 = .ok (.ifCond .eq 17, 3) := by decide +kernel
theorem dL_isRead_132 : decode cL_isRead 132 = .ok (.aload_n 1, 1) := by decide +kernel
theorem dL_isRead_133 : decode cL_isRead 133 = .ok (.iconst 0, 1) := by decide +kernel
theorem dL_isRead_134 : decode cL_isRead 134 = .ok (.iaload, 1) := by decide +kernel
theorem dL_isRead_135 : decode cL_isRead 135 = .ok (.bipush 8, 2) := by decide +kernel
theorem dL_isRead_137 : decode cL_isRead 137 = .ok (.if_icmp .ge 15, 3) := by decide +kernel
theorem dL_isRead_140 : decode cL_isRead 140 = .ok (.iload_n 3, 1) := by decide +kernel
theorem dL_isRead_141 : decode cL_isRead 141 = .ok (.iconst 3, 1) := by decide +kernel
theorem dL_isRead_142 : decode cL_isRead 142 = .ok (.irem, 1) := by decide +kernel
theorem dL_isRead_143 : decode cL_isRead 143 = .ok (.ifCond .le 9, 3) := by decide +kernel
theorem dL_isRead_146 : decode cL_isRead 146 = .ok (.aload_n 1, 1) := by decide +kernel
theorem dL_isRead_147 : decode cL_isRead 147 = .ok (.iconst 0, 1) := by decide +kernel
theorem dL_isRead_148 : decode cL_isRead 148 = .ok (.iaload, 1) := by decide +kernel
theorem dL_isRead_149 : decode cL_isRead 149 = .ok (.goto 8, 3) := by decide +kernel
theorem dL_isRead_152 : decode cL_isRead 152 = .ok (.iload_n 3, 1) := by decide +kernel
theorem dL_isRead_153 : decode cL_isRead 153 = .ok (.aload_n 1, 1) := by decide +kernel
theorem dL_isRead_154 : decode cL_isRead 154 = .ok (.iconst 0, 1) := by decide +kernel
theorem dL_isRead_155 : decode cL_isRead 155 = .ok (.iaload, 1) := by decide +kernel
theorem dL_isRead_156 : decode cL_isRead 156 = .ok (.irem, 1) := by decide +kernel
theorem dL_isRead_157 : decode cL_isRead 157 = .ok (.istore 7, 2) := by decide +kernel
theorem dL_isRead_159 : decode cL_isRead 159 = .ok (.aload_n 0, 1) := by decide +kernel
theorem dL_isRead_160 : decode cL_isRead 160 = .ok (.iload 7, 2) := by decide +kernel
theorem dL_isRead_162 : decode cL_isRead 162 = .ok (.invokevirtual 96, 3) := by decide +kernel
theorem dL_isRead_165 : decode cL_isRead 165 = .ok (.istore 8, 2) := by decide +kernel
theorem dL_isRead_167 : decode cL_isRead 167 = .ok (.aload_n 1, 1) := by decide +kernel
theorem dL_isRead_168 : decode cL_isRead 168 = .ok (.iconst 0, 1) := by decide +kernel
theorem dL_isRead_169 : decode cL_isRead 169 = .ok (.dup2, 1) := by decide +kernel
theorem dL_isRead_170 : decode cL_isRead 170 = .ok (.iaload, 1) := by decide +kernel
theorem dL_isRead_171 : decode cL_isRead 171 = .ok (.iload 7, 2) := by decide +kernel
theorem dL_isRead_173 : decode cL_isRead 173 = .ok (.aload_n 1, 1) := by decide +kernel
theorem dL_isRead_174 : decode cL_isRead 174 = .ok (.iconst 0, 1) := by decide +kernel
theorem dL_isRead_175 : decode cL_isRead 175 = .ok (.iaload, 1) := by decide +kernel
theorem dL_isRead_176 : decode cL_isRead 176 = .ok (.if_icmp .ne 7, 3) := by decide +kernel
theorem dL_isRead_179 : decode cL_isRead 179 = .ok (.iconst 1, 1) := by decide +kernel
theorem dL_isRead_180 : decode cL_isRead 180 = .ok (.goto 4, 3) := by decide +kernel
theorem dL_isRead_183 : decode cL_isRead 183 = .ok (.iconst 0, 1) := by decide +kernel
theorem dL_isRead_184 : decode cL_isRead 184 = .ok (.iadd, 1) := by decide +kernel
theorem dL_isRead_185 : decode cL_isRead 185 = .ok (.iastore, 1) := by decide +kernel
theorem dL_isRead_186 : decode cL_isRead 186 = .ok (.aload_n 0, 1) := by decide +kernel
theorem dL_isRead_187 : decode cL_isRead 187 = .ok (.iload 7, 2) := by decide +kernel
theorem dL_isRead_189 : decode cL_isRead 189 = .ok (.invokevirtual 99, 3) := by decide +kernel
theorem dL_isRead_192 : decode cL_isRead 192 = .ok (.lstore 9, 2) := by decide +kernel
theorem dL_isRead_194 : decode cL_isRead 194 = .ok (.iload 5, 2) := by decide +kernel
theorem dL_isRead_196 : decode cL_isRead 196 = .ok (.ifCond .eq 91, 3) := by decide +kernel
theorem dL_isRead_199 : decode cL_isRead 199 = .ok (.iload 6, 2) := by decide +kernel
theorem dL_isRead_201 : decode cL_isRead 201 = .ok (.ifCond .le 86, 3) := by decide +kernel
theorem dL_isRead_204 : decode cL_isRead 204 = .ok (.iload 6, 2) := by decide +kernel
theorem dL_isRead_206 : decode cL_isRead 206 = .ok (.bipush 60, 2) := by decide +kernel
theorem dL_isRead_208 : decode cL_isRead 208 = .ok (.if_icmp .gt 79, 3) := by decide +kernel
theorem dL_isRead_211 : decode cL_isRead 211 = .ok (.iload 8, 2) := by decide +kernel
theorem dL_isRead_213 : decode cL_isRead 213 = .ok (.ifCond .le 74, 3) := by decide +kernel
theorem dL_isRead_216 : decode cL_isRead 216 = .ok (.iload 8, 2) := by decide +kernel
theorem dL_isRead_218 : decode cL_isRead 218 = .ok (.iload 6, 2) := by decide +kernel
theorem dL_isRead_220 : decode cL_isRead 220 = .ok (.if_icmp .gt 67, 3) := by decide +kernel
theorem dL_isRead_223 : decode cL_isRead 223 = .ok (.aload_n 0, 1) := by decide +kernel
theorem dL_isRead_224 : decode cL_isRead 224 = .ok (.lconst 0, 1) := by decide +kernel
theorem dL_isRead_225 : decode cL_isRead 225 = .ok (.invokestatic 89, 3) := by decide +kernel
theorem dL_isRead_228 : decode cL_isRead 228 = .ok (.ifCond .ne 59, 3) := by decide +kernel
theorem dL_isRead_231 : decode cL_isRead 231 = .ok (.aload_n 0, 1) := by decide +kernel
theorem dL_isRead_232 : decode cL_isRead 232 = .ok (.ldc2_w 85, 3) := by decide +kernel
theorem dL_isRead_235 : decode cL_isRead 235 = .ok (.invokestatic 89, 3) := by decide +kernel
theorem dL_isRead_238 : decode cL_isRead 238 = .ok (.iconst 1, 1) := by decide +kernel
theorem dL_isRead_239 : decode cL_isRead 239 = .ok (.if_icmp .ne 48, 3) := by decide +kernel
theorem dL_isRead_242 : decode cL_isRead 242 = .ok (.aload_n 0, 1) := by decide +kernel
theorem dL_isRead_243 : decode cL_isRead 243 = .ok (.iload 7, 2) := by decide +kernel
theorem dL_isRead_245 : decode cL_isRead 245 = .ok (.invokevirtual 96, 3) := by decide +kernel
theorem dL_isRead_248 : decode cL_isRead 248 = .ok (.iconst (-1), 1) := by decide +kernel
theorem dL_isRead_249 : decode cL_isRead 249 = .ok (.if_icmp .ne 38, 3) := by decide +kernel
theorem dL_isRead_252 : decode cL_isRead 252 = .ok (.aload_n 0, 1) := by decide +kernel
theorem dL_isRead_253 : decode cL_isRead 253 = .ok (.iload 7, 2) := by decide +kernel
theorem dL_isRead_255 : decode cL_isRead 255 = .ok (.invokevirtual 99, 3) := by decide +kernel
theorem dL_isRead_258 : decode cL_isRead 258 = .ok (.lload 9, 2) := by decide +kernel
theorem dL_isRead_260 : decode cL_isRead 260 = .ok (.lcmp, 1) := by decide +kernel
theorem dL_isRead_261 : decode cL_isRead 261 = .ok (.ifCond .ne 26, 3) := by decide +kernel
theorem dL_isRead_264 : decode cL_isRead 264 = .ok (.aload_n 1, 1) := by decide +kernel
theorem dL_isRead_265 : decode cL_isRead 265 = .ok (.iconst 0, 1) := by decide +kernel
theorem dL_isRead_266 : decode cL_isRead 266 = .ok (.iaload, 1) := by decide +kernel
theorem dL_isRead_267 : decode cL_isRead 267 = .ok (.bipush 8, 2) := by decide +kernel
theorem dL_isRead_269 : decode cL_isRead 269 = .ok (.if_icmp .eq 14, 3) := by decide +kernel
theorem dL_isRead_272 : decode cL_isRead 272 = .ok (.aload_n 0, 1) := by decide +kernel
theorem dL_isRead_273 : decode cL_isRead 273 = .ok (.aload_n 1, 1) := by decide +kernel
theorem dL_isRead_274 : decode cL_isRead 274 = .ok (.iconst 0, 1) := by decide +kernel
theorem dL_isRead_275 : decode cL_isRead 275 = .ok (.iaload, 1) := by decide +kernel
theorem dL_isRead_276 : decode cL_isRead 276 = .ok (.invokevirtual 96, 3) := by decide +kernel
theorem dL_isRead_279 : decode cL_isRead 279 = .ok (.iconst (-1), 1) := by decide +kernel
theorem dL_isRead_280 : decode cL_isRead 280 = .ok (.if_icmp .ne 7, 3) := by decide +kernel
theorem dL_isRead_283 : decode cL_isRead 283 = .ok (.iconst 1, 1) := by decide +kernel
theorem dL_isRead_284 : decode cL_isRead 284 = .ok (.goto 4, 3) := by decide +kernel
theorem dL_isRead_287 : decode cL_isRead 287 = .ok (.iconst 0, 1) := by decide +kernel
theorem dL_isRead_288 : decode cL_isRead 288 = .ok (.ireturn, 1) := by decide +kernel
set_option maxRecDepth 20000 in
theorem ggL_isBudget_X6_sensitivity : GoodIn wsL_isBudget wsX6_sensitivity := goodIn_ca (goodIn_r _ [10, 11, 12, 13, 14, 15, 9, 16, 17, 18, 19, 20, 21, 22, 23, 24, 25, 26, 27, 28, 29, 30, 31, 32, 33, 34, 35, 36, 37, 38, 39, 40, 41, 42, 43, 44, 45, 46, 47, 48, 49, 50, 51, 52, 53, 214, 215, 216, 217, 218, 219, 220, 221, 222, 223, 224, 225, 226, 227, 228, 229, 230, 231, 232, 233, 234, 235, 236, 237, 238, 239, 240] (by decide +kernel) (by decide +kernel)) (goodIn_sub (fun _ h => List.mem_cons_of_mem _ (List.mem_append_left _ (List.mem_append_right _ h))) (by decide +kernel))
set_option maxRecDepth 20000 in
theorem gL_isBudget_X6_sensitivity : GoodIn wsL_isBudget (wsV RL 103 RX6 yX6_sensitivity wsX6_sensitivity) := goodIn_app (goodIn_of _ (by decide +kernel)) ggL_isBudget_X6_sensitivity
set_option maxRecDepth 20000 in
theorem ggL_isBudget_X6_sensitivityAnew : GoodIn wsL_isBudget wsX6_sensitivityAnew := goodIn_ca (goodIn_r _ [57, 11, 12, 58, 59, 13, 14, 15, 9, 16, 17, 18, 19, 20, 21, 22, 60, 61, 62, 26, 63, 29, 30, 28, 42, 40, 31, 32, 33, 34, 35, 36, 37, 38, 39, 41, 43, 44, 45, 64, 65, 66, 67, 68, 69, 70, 71, 50, 51, 52, 53, 214, 215, 216, 217, 218, 219, 220, 221, 222, 223, 224, 225, 226, 227, 228, 229, 230, 231, 241, 242, 243, 244, 232, 233, 234, 235, 236, 237, 238, 239, 240] (by decide +kernel) (by decide +kernel)) (goodIn_sub (fun _ h => List.mem_cons_of_mem _ (List.mem_append_left _ (List.mem_append_right _ h))) (by decide +kernel))
set_option maxRecDepth 20000 in
theorem gL_isBudget_X6_sensitivityAnew : GoodIn wsL_isBudget (wsV RL 106 RX6 yX6_sensitivityAnew wsX6_sensitivityAnew) := goodIn_app (goodIn_of _ (by decide +kernel)) ggL_isBudget_X6_sensitivityAnew
set_option maxRecDepth 20000 in
theorem ggL_isBudget_X6_contribution : GoodIn wsL_isBudget wsX6_contribution := goodIn_ca (goodIn_r _ [75, 58, 11, 76, 13, 14, 15, 9, 16, 17, 18, 19, 20, 21, 22, 77, 78, 79, 80, 81, 82, 83, 84, 85, 86, 87, 88, 89, 61, 62, 26, 63, 29, 30, 28, 42, 40, 31, 32, 33, 34, 35, 36, 37, 38, 39, 41, 43, 44, 45, 64, 65, 66, 67, 68, 69, 70, 71, 50, 51, 52, 53, 90, 91, 92, 93, 94, 95, 96, 97, 98, 99, 100, 101, 102, 103, 104, 105, 106, 214, 215, 216, 217, 218, 219, 220, 221, 222, 241, 242, 243, 244, 223, 224, 225, 226, 227, 228, 229, 230, 231, 232, 233, 234, 235, 236, 237, 238, 239, 240] (by decide +kernel) (by decide +kernel)) (goodIn_sub (fun _ h => List.mem_cons_of_mem _ (List.mem_append_left _ (List.mem_append_right _ h))) (by decide +kernel))
set_option maxRecDepth 20000 in
theorem gL_isBudget_X6_contribution : GoodIn wsL_isBudget (wsV RL 109 RX6 yX6_contribution wsX6_contribution) := goodIn_app (goodIn_of _ (by decide +kernel)) ggL_isBudget_X6_contribution
set_option maxRecDepth 20000 in
theorem ggL_isBudget_X6_input : GoodIn wsL_isBudget wsX6_input := goodIn_ca (goodIn_ca (goodIn_r _ [110, 11, 12, 111, 112, 20, 21, 9, 22, 17, 18, 113, 114, 115, 116, 117, 118, 96, 97, 98, 99, 100, 119, 120, 121, 122, 123, 124, 214, 215, 216, 217, 218, 219, 220, 221, 222, 223, 224, 225, 226, 227, 228, 229, 230, 231] (by decide +kernel) (by decide +kernel)) (goodIn_sub (fun _ h => List.mem_cons_of_mem _ (List.mem_append_left _ (List.mem_append_right _ h))) (by decide +kernel))) (goodIn_sub (fun _ h => List.mem_cons_of_mem _ (List.mem_append_right _ h)) (by decide +kernel))
set_option maxRecDepth 20000 in
theorem gL_isBudget_X6_input : GoodIn wsL_isBudget (wsV RL 45 RX6 yX6_input wsX6_input) := goodIn_app (goodIn_of _ (by decide +kernel)) ggL_isBudget_X6_input
set_option maxRecDepth 20000 in
theorem ggL_isBudget_X6_together : GoodIn wsL_isBudget wsX6_together := goodIn_ca (goodIn_ca (goodIn_r _ [128, 116, 117, 11, 20, 21, 9, 22, 17, 18, 113, 114, 115, 129, 130, 131, 98, 132, 133, 214, 215, 216, 217, 218, 219, 220, 221, 222, 223, 224, 225, 226, 227, 228, 229, 230, 231] (by decide +kernel) (by decide +kernel)) (goodIn_sub (fun _ h => List.mem_cons_of_mem _ (List.mem_append_right _ h)) (by decide +kernel))) (goodIn_sub (fun _ h => List.mem_cons_of_mem _ (List.mem_append_left _ (List.mem_append_right _ h))) (by decide +kernel))
set_option maxRecDepth 20000 in
theorem gL_isBudget_X6_together : GoodIn wsL_isBudget (wsV RL 62 RX6 yX6_together wsX6_together) := goodIn_app (goodIn_of _ (by decide +kernel)) ggL_isBudget_X6_together
set_option maxRecDepth 20000 in
theorem ggL_isBudget_X6_budget : GoodIn wsL_isBudget wsX6_budget := goodIn_ca (goodIn_ca (goodIn_r _ [137, 58, 11, 138, 139, 13, 14, 15, 9, 16, 17, 18, 19, 113, 114, 115, 116, 117, 77, 78, 79, 80, 81, 82, 83, 84, 85, 86, 87, 88, 89, 61, 62, 26, 63, 29, 30, 28, 42, 40, 31, 32, 33, 34, 35, 36, 37, 38, 39, 41, 43, 44, 45, 64, 65, 66, 67, 68, 69, 70, 71, 50, 51, 52, 53, 90, 91, 92, 93, 94, 95, 96, 97, 98, 99, 100, 101, 102, 103, 104, 105, 140, 141, 142, 143, 144, 145, 146, 147, 148, 149, 150, 151, 152, 153, 154, 155, 156, 157, 158, 159, 160, 161, 162, 163, 164, 165, 166, 167, 168, 169, 170, 214, 215, 216, 217, 218, 219, 220, 221, 222, 241, 242, 243, 244, 223, 224, 225, 226, 227, 228, 229, 230, 231, 232, 233, 234, 235, 236, 237, 238, 239, 240, 245, 246, 247] (by decide +kernel) (by decide +kernel)) (goodIn_sub (fun _ h => List.mem_cons_of_mem _ (List.mem_append_left _ (List.mem_append_right _ h))) (by decide +kernel))) (goodIn_sub (fun _ h => List.mem_cons_of_mem _ (List.mem_append_right _ h)) (by decide +kernel))
set_option maxRecDepth 20000 in
theorem gL_isBudget_X6_budget : GoodIn wsL_isBudget (wsV RL 79 RX6 yX6_budget wsX6_budget) := goodIn_app (goodIn_of _ (by decide +kernel)) ggL_isBudget_X6_budget
set_option maxRecDepth 20000 in
theorem ggL_isBudget_X6_ranked : GoodIn wsL_isBudget wsX6_ranked := goodIn_ca (goodIn_r _ [174, 17, 18, 58, 11, 13, 14, 15, 9, 16, 19, 77, 78, 79, 80, 81, 82, 83, 84, 85, 86, 87, 88, 89, 61, 62, 26, 63, 29, 30, 28, 42, 40, 31, 32, 33, 34, 35, 36, 37, 38, 39, 41, 43, 44, 45, 64, 65, 66, 67, 68, 69, 70, 71, 50, 51, 52, 53, 90, 91, 92, 93, 94, 95, 96, 97, 98, 99, 100, 101, 102, 103, 104, 105, 175, 176, 177, 178, 179, 180, 181, 182, 214, 215, 216, 217, 218, 219, 220, 221, 222, 223, 224, 225, 226, 227, 228, 229, 230, 231, 241, 242, 243, 244, 232, 233, 234, 235, 236, 237, 238, 239, 240] (by decide +kernel) (by decide +kernel)) (goodIn_sub (fun _ h => List.mem_cons_of_mem _ (List.mem_append_left _ (List.mem_append_right _ h))) (by decide +kernel))
set_option maxRecDepth 20000 in
theorem gL_isBudget_X6_ranked : GoodIn wsL_isBudget (wsV RL 121 RX6 yX6_ranked wsX6_ranked) := goodIn_app (goodIn_of _ (by decide +kernel)) ggL_isBudget_X6_ranked
set_option maxRecDepth 20000 in
theorem ggL_isBudget_X6_disagrees : GoodIn wsL_isBudget wsX6_disagrees := goodIn_ca (goodIn_r _ [186, 11, 187, 188, 13, 14, 15, 9, 16, 17, 18, 19, 189, 190, 191, 26, 192, 193, 194, 195, 196, 197, 198, 199, 200, 201, 202, 203, 28, 204, 30, 205, 206, 207, 208, 40, 41, 42, 209, 210, 211, 212, 213, 214, 215, 216, 217, 218, 219, 220, 221, 222, 223, 224, 225, 226, 227, 228, 229, 230, 231, 232, 233, 234, 235, 236, 237, 238, 239, 240] (by decide +kernel) (by decide +kernel)) (goodIn_sub (fun _ h => List.mem_cons_of_mem _ (List.mem_append_left _ (List.mem_append_right _ h))) (by decide +kernel))
set_option maxRecDepth 20000 in
theorem gL_isBudget_X6_disagrees : GoodIn wsL_isBudget (wsV RL 58 RX6 yX6_disagrees wsX6_disagrees) := goodIn_app (goodIn_of _ (by decide +kernel)) ggL_isBudget_X6_disagrees
theorem dL_isBudget_0 : decode cL_isBudget 0 = .ok (.lconst 0, 1) := by decide +kernel
theorem dL_isBudget_1 : decode cL_isBudget 1 = .ok (.lstore_n 2, 1) := by decide +kernel
theorem dL_isBudget_2 : decode cL_isBudget 2 = .ok (.iconst 1, 1) := by decide +kernel
theorem dL_isBudget_3 : decode cL_isBudget 3 = .ok (.istore 4, 2) := by decide +kernel
theorem dL_isBudget_5 : decode cL_isBudget 5 = .ok (.iconst 0, 1) := by decide +kernel
theorem dL_isBudget_6 : decode cL_isBudget 6 = .ok (.istore 5, 2) := by decide +kernel
theorem dL_isBudget_8 : decode cL_isBudget 8 = .ok (.iload 5, 2) := by decide +kernel
theorem dL_isBudget_10 : decode cL_isBudget 10 = .ok (.bipush 6, 2) := by decide +kernel
theorem dL_isBudget_12 : decode cL_isBudget 12 = .ok (.if_icmp .ge 86, 3) := by decide +kernel
theorem dL_isBudget_15 : decode cL_isBudget 15 = .ok (.iload 4, 2) := by decide +kernel
theorem dL_isBudget_17 : decode cL_isBudget 17 = .ok (.ifCond .eq 81, 3) := by decide +kernel
theorem dL_isBudget_20 : decode cL_isBudget 20 = .ok (.aload_n 0, 1) := by decide +kernel
theorem dL_isBudget_21 : decode cL_isBudget 21 = .ok (.iload_n 1, 1) := by decide +kernel
theorem dL_isBudget_22 : decode cL_isBudget 22 = .ok (.iload 5, 2) := by decide +kernel
theorem dL_isBudget_24 : decode cL_isBudget 24 = .ok (.invokevirtual 103, 3) := by decide +kernel
theorem dL_isBudget_27 : decode cL_isBudget 27 = .ok (.lstore 6, 2) := by decide +kernel
theorem dL_isBudget_29 : decode cL_isBudget 29 = .ok (.lload 6, 2) := by decide +kernel
theorem dL_isBudget_31 : decode cL_isBudget 31 = .ok (.aload_n 0, 1) := by decide +kernel
theorem dL_isBudget_32 : decode cL_isBudget 32 = .ok (.iload_n 1, 1) := by decide +kernel
theorem dL_isBudget_33 : decode cL_isBudget 33 = .ok (.iload 5, 2) := by decide +kernel
theorem dL_isBudget_35 : decode cL_isBudget 35 = .ok (.invokevirtual 106, 3) := by decide +kernel
theorem dL_isBudget_38 : decode cL_isBudget 38 = .ok (.lcmp, 1) := by decide +kernel
theorem dL_isBudget_39 : decode cL_isBudget 39 = .ok (.ifCond .ne 33, 3) := by decide +kernel
theorem dL_isBudget_42 : decode cL_isBudget 42 = .ok (.aload_n 0, 1) := by decide +kernel
theorem dL_isBudget_43 : decode cL_isBudget 43 = .ok (.iload_n 1, 1) := by decide +kernel
theorem dL_isBudget_44 : decode cL_isBudget 44 = .ok (.iload 5, 2) := by decide +kernel
theorem dL_isBudget_46 : decode cL_isBudget 46 = .ok (.iconst 0, 1) := by decide +kernel
theorem dL_isBudget_47 : decode cL_isBudget 47 = .ok (.invokevirtual 109, 3) := by decide +kernel
theorem dL_isBudget_50 : decode cL_isBudget 50 = .ok (.lload 6, 2) := by decide +kernel
theorem dL_isBudget_52 : decode cL_isBudget 52 = .ok (.lload 6, 2) := by decide +kernel
theorem dL_isBudget_54 : decode cL_isBudget 54 = .ok (.lmul, 1) := by decide +kernel
theorem dL_isBudget_55 : decode cL_isBudget 55 = .ok (.aload_n 0, 1) := by decide +kernel
theorem dL_isBudget_56 : decode cL_isBudget 56 = .ok (.iload 5, 2) := by decide +kernel
theorem dL_isBudget_58 : decode cL_isBudget 58 = .ok (.iconst 1, 1) := by decide +kernel
theorem dL_isBudget_59 : decode cL_isBudget 59 = .ok (.invokevirtual 45, 3) := by decide +kernel
theorem dL_isBudget_62 : decode cL_isBudget 62 = .ok (.i2l, 1) := by decide +kernel
theorem dL_isBudget_63 : decode cL_isBudget 63 = .ok (.lmul, 1) := by decide +kernel
theorem dL_isBudget_64 : decode cL_isBudget 64 = .ok (.lcmp, 1) := by decide +kernel
theorem dL_isBudget_65 : decode cL_isBudget 65 = .ok (.ifCond .ne 7, 3) := by decide +kernel
theorem dL_isBudget_68 : decode cL_isBudget 68 = .ok (.iconst 1, 1) := by decide +kernel
theorem dL_isBudget_69 : decode cL_isBudget 69 = .ok (.goto 4, 3) := by decide +kernel
theorem dL_isBudget_72 : decode cL_isBudget 72 = .ok (.iconst 0, 1) := by decide +kernel
theorem dL_isBudget_73 : decode cL_isBudget 73 = .ok (.istore 4, 2) := by decide +kernel
theorem dL_isBudget_75 : decode cL_isBudget 75 = .ok (.lload_n 2, 1) := by decide +kernel
theorem dL_isBudget_76 : decode cL_isBudget 76 = .ok (.lload 6, 2) := by decide +kernel
theorem dL_isBudget_78 : decode cL_isBudget 78 = .ok (.lload 6, 2) := by decide +kernel
theorem dL_isBudget_80 : decode cL_isBudget 80 = .ok (.lmul, 1) := by decide +kernel
theorem dL_isBudget_81 : decode cL_isBudget 81 = .ok (.aload_n 0, 1) := by decide +kernel
theorem dL_isBudget_82 : decode cL_isBudget 82 = .ok (.iload 5, 2) := by decide +kernel
theorem dL_isBudget_84 : decode cL_isBudget 84 = .ok (.iconst 1, 1) := by decide +kernel
theorem dL_isBudget_85 : decode cL_isBudget 85 = .ok (.invokevirtual 45, 3) := by decide +kernel
theorem dL_isBudget_88 : decode cL_isBudget 88 = .ok (.i2l, 1) := by decide +kernel
theorem dL_isBudget_89 : decode cL_isBudget 89 = .ok (.lmul, 1) := by decide +kernel
theorem dL_isBudget_90 : decode cL_isBudget 90 = .ok (.ladd, 1) := by decide +kernel
theorem dL_isBudget_91 : decode cL_isBudget 91 = .ok (.lstore_n 2, 1) := by decide +kernel
theorem dL_isBudget_92 : decode cL_isBudget 92 = .ok (.iinc 5 1, 3) := by decide +kernel
theorem dL_isBudget_95 : decode cL_isBudget 95 = .ok (.goto (-87), 3) := by decide +kernel
theorem dL_isBudget_98 : decode cL_isBudget 98 = .ok (.iconst 0, 1) := by decide +kernel
theorem dL_isBudget_99 : decode cL_isBudget 99 = .ok (.istore 5, 2) := by decide +kernel
theorem dL_isBudget_101 : decode cL_isBudget 101 = .ok (.iload 5, 2) := by decide +kernel
theorem dL_isBudget_103 : decode cL_isBudget 103 = .ok (.bipush 15, 2) := by decide +kernel
theorem dL_isBudget_105 : decode cL_isBudget 105 = .ok (.if_icmp .ge 181, 3) := by decide +kernel
theorem dL_isBudget_108 : decode cL_isBudget 108 = .ok (.iload 4, 2) := by decide +kernel
theorem dL_isBudget_110 : decode cL_isBudget 110 = .ok (.ifCond .eq 176, 3) := by decide +kernel
theorem dL_isBudget_113 : decode cL_isBudget 113 = .ok (.iload 5, 2) := by decide +kernel
theorem dL_isBudget_115 : decode cL_isBudget 115 = .ok (.iconst 5, 1) := by decide +kernel
theorem dL_isBudget_116 : decode cL_isBudget 116 = .ok (.if_icmp .ge 7, 3) := by decide +kernel
theorem dL_isBudget_119 : decode cL_isBudget 119 = .ok (.iconst 0, 1) := by decide +kernel
theorem dL_isBudget_120 : decode cL_isBudget 120 = .ok (.goto 37, 3) := by decide +kernel
theorem dL_isBudget_123 : decode cL_isBudget 123 = .ok (.iload 5, 2) := by decide +kernel
theorem dL_isBudget_125 : decode cL_isBudget 125 = .ok (.bipush 9, 2) := by decide +kernel
theorem dL_isBudget_127 : decode cL_isBudget 127 = .ok (.if_icmp .ge 7, 3) := by decide +kernel
theorem dL_isBudget_130 : decode cL_isBudget 130 = .ok (.iconst 1, 1) := by decide +kernel
theorem dL_isBudget_131 : decode cL_isBudget 131 = .ok (.goto 26, 3) := by decide +kernel
theorem dL_isBudget_134 : decode cL_isBudget 134 = .ok (.iload 5, 2) := by decide +kernel
theorem dL_isBudget_136 : decode cL_isBudget 136 = .ok (.bipush 12, 2) := by decide +kernel
theorem dL_isBudget_138 : decode cL_isBudget 138 = .ok (.if_icmp .ge 7, 3) := by decide +kernel
theorem dL_isBudget_141 : decode cL_isBudget 141 = .ok (.iconst 2, 1) := by decide +kernel
theorem dL_isBudget_142 : decode cL_isBudget 142 = .ok (.goto 15, 3) := by decide +kernel
theorem dL_isBudget_145 : decode cL_isBudget 145 = .ok (.iload 5, 2) := by decide +kernel
theorem dL_isBudget_147 : decode cL_isBudget 147 = .ok (.bipush 14, 2) := by decide +kernel
theorem dL_isBudget_149 : decode cL_isBudget 149 = .ok (.if_icmp .ge 7, 3) := by decide +kernel
theorem dL_isBudget_152 : decode cL_isBudget 152 = .ok (.iconst 3, 1) := by decide +kernel
theorem dL_isBudget_153 : decode cL_isBudget 153 = .ok (.goto 4, 3) := by decide +kernel
theorem dL_isBudget_156 : decode cL_isBudget 156 = .ok (.iconst 4, 1) := by decide +kernel
theorem dL_isBudget_157 : decode cL_isBudget 157 = .ok (.istore 6, 2) := by decide +kernel
theorem dL_isBudget_159 : decode cL_isBudget 159 = .ok (.iload 5, 2) := by decide +kernel
theorem dL_isBudget_161 : decode cL_isBudget 161 = .ok (.iconst 5, 1) := by decide +kernel
theorem dL_isBudget_162 : decode cL_isBudget 162 = .ok (.if_icmp .ge 10, 3) := by decide +kernel
theorem dL_isBudget_165 : decode cL_isBudget 165 = .ok (.iload 5, 2) := by decide +kernel
theorem dL_isBudget_167 : decode cL_isBudget 167 = .ok (.iconst 1, 1) := by decide +kernel
theorem dL_isBudget_168 : decode cL_isBudget 168 = .ok (.iadd, 1) := by decide +kernel
theorem dL_isBudget_169 : decode cL_isBudget 169 = .ok (.goto 48, 3) := by decide +kernel
theorem dL_isBudget_172 : decode cL_isBudget 172 = .ok (.iload 5, 2) := by decide +kernel
theorem dL_isBudget_174 : decode cL_isBudget 174 = .ok (.bipush 9, 2) := by decide +kernel
theorem dL_isBudget_176 : decode cL_isBudget 176 = .ok (.if_icmp .ge 10, 3) := by decide +kernel
theorem dL_isBudget_179 : decode cL_isBudget 179 = .ok (.iload 5, 2) := by decide +kernel
theorem dL_isBudget_181 : decode cL_isBudget 181 = .ok (.iconst 3, 1) := by decide +kernel
theorem dL_isBudget_182 : decode cL_isBudget 182 = .ok (.isub, 1) := by decide +kernel
theorem dL_isBudget_183 : decode cL_isBudget 183 = .ok (.goto 34, 3) := by decide +kernel
theorem dL_isBudget_186 : decode cL_isBudget 186 = .ok (.iload 5, 2) := by decide +kernel
theorem dL_isBudget_188 : decode cL_isBudget 188 = .ok (.bipush 12, 2) := by decide +kernel
theorem dL_isBudget_190 : decode cL_isBudget 190 = .ok (.if_icmp .ge 11, 3) := by decide +kernel
theorem dL_isBudget_193 : decode cL_isBudget 193 = .ok (.iload 5, 2) := by decide +kernel
theorem dL_isBudget_195 : decode cL_isBudget 195 = .ok (.bipush 6, 2) := by decide +kernel
theorem dL_isBudget_197 : decode cL_isBudget 197 = .ok (.isub, 1) := by decide +kernel
theorem dL_isBudget_198 : decode cL_isBudget 198 = .ok (.goto 19, 3) := by decide +kernel
theorem dL_isBudget_201 : decode cL_isBudget 201 = .ok (.iload 5, 2) := by decide +kernel
theorem dL_isBudget_203 : decode cL_isBudget 203 = .ok (.bipush 14, 2) := by decide +kernel
theorem dL_isBudget_205 : decode cL_isBudget 205 = .ok (.if_icmp .ge 11, 3) := by decide +kernel
theorem dL_isBudget_208 : decode cL_isBudget 208 = .ok (.iload 5, 2) := by decide +kernel
theorem dL_isBudget_210 : decode cL_isBudget 210 = .ok (.bipush 8, 2) := by decide +kernel
theorem dL_isBudget_212 : decode cL_isBudget 212 = .ok (.isub, 1) := by decide +kernel
theorem dL_isBudget_213 : decode cL_isBudget 213 = .ok (.goto 4, 3) := by decide +kernel
theorem dL_isBudget_216 : decode cL_isBudget 216 = .ok (.iconst 5, 1) := by decide +kernel
theorem dL_isBudget_217 : decode cL_isBudget 217 = .ok (.istore 7, 2) := by decide +kernel
theorem dL_isBudget_219 : decode cL_isBudget 219 = .ok (.aload_n 0, 1) := by decide +kernel
theorem dL_isBudget_220 : decode cL_isBudget 220 = .ok (.iload 6, 2) := by decide +kernel
theorem dL_isBudget_222 : decode cL_isBudget 222 = .ok (.iload 7, 2) := by decide +kernel
theorem dL_isBudget_224 : decode cL_isBudget 224 = .ok (.iconst 0, 1) := by decide +kernel
theorem dL_isBudget_225 : decode cL_isBudget 225 = .ok (.invokevirtual 62, 3) := by decide +kernel
theorem dL_isBudget_228 : decode cL_isBudget 228 = .ok (.istore 8, 2) := by decide +kernel
theorem dL_isBudget_230 : decode cL_isBudget 230 = .ok (.aload_n 0, 1) := by decide +kernel
theorem dL_isBudget_231 : decode cL_isBudget 231 = .ok (.iload 6, 2) := by decide +kernel
theorem dL_isBudget_233 : decode cL_isBudget 233 = .ok (.iload 7, 2) := by decide +kernel
theorem dL_isBudget_235 : decode cL_isBudget 235 = .ok (.iload 8, 2) := by decide +kernel
theorem dL_isBudget_237 : decode cL_isBudget 237 = .ok (.invokevirtual 62, 3) := by decide +kernel
theorem dL_isBudget_240 : decode cL_isBudget 240 = .ok (.istore 9, 2) := by decide +kernel
theorem dL_isBudget_242 : decode cL_isBudget 242 = .ok (.iload 9, 2) := by decide +kernel
theorem dL_isBudget_244 : decode cL_isBudget 244 = .ok (.ifCond .ne 7, 3) := by decide +kernel
theorem dL_isBudget_247 : decode cL_isBudget 247 = .ok (.iconst 1, 1) := by decide +kernel
theorem dL_isBudget_248 : decode cL_isBudget 248 = .ok (.goto 4, 3) := by decide +kernel
theorem dL_isBudget_251 : decode cL_isBudget 251 = .ok (.iconst 0, 1) := by decide +kernel
theorem dL_isBudget_252 : decode cL_isBudget 252 = .ok (.istore 4, 2) := by decide +kernel
theorem dL_isBudget_254 : decode cL_isBudget 254 = .ok (.lload_n 2, 1) := by decide +kernel
theorem dL_isBudget_255 : decode cL_isBudget 255 = .ok (.ldc2_w 113, 3) := by decide +kernel
theorem dL_isBudget_258 : decode cL_isBudget 258 = .ok (.aload_n 0, 1) := by decide +kernel
theorem dL_isBudget_259 : decode cL_isBudget 259 = .ok (.iload_n 1, 1) := by decide +kernel
theorem dL_isBudget_260 : decode cL_isBudget 260 = .ok (.iload 6, 2) := by decide +kernel
theorem dL_isBudget_262 : decode cL_isBudget 262 = .ok (.invokevirtual 103, 3) := by decide +kernel
theorem dL_isBudget_265 : decode cL_isBudget 265 = .ok (.aload_n 0, 1) := by decide +kernel
theorem dL_isBudget_266 : decode cL_isBudget 266 = .ok (.iload_n 1, 1) := by decide +kernel
theorem dL_isBudget_267 : decode cL_isBudget 267 = .ok (.iload 7, 2) := by decide +kernel
theorem dL_isBudget_269 : decode cL_isBudget 269 = .ok (.invokevirtual 103, 3) := by decide +kernel
theorem dL_isBudget_272 : decode cL_isBudget 272 = .ok (.lmul, 1) := by decide +kernel
theorem dL_isBudget_273 : decode cL_isBudget 273 = .ok (.iload 8, 2) := by decide +kernel
theorem dL_isBudget_275 : decode cL_isBudget 275 = .ok (.i2l, 1) := by decide +kernel
theorem dL_isBudget_276 : decode cL_isBudget 276 = .ok (.lmul, 1) := by decide +kernel
theorem dL_isBudget_277 : decode cL_isBudget 277 = .ok (.lmul, 1) := by decide +kernel
theorem dL_isBudget_278 : decode cL_isBudget 278 = .ok (.ladd, 1) := by decide +kernel
theorem dL_isBudget_279 : decode cL_isBudget 279 = .ok (.lstore_n 2, 1) := by decide +kernel
theorem dL_isBudget_280 : decode cL_isBudget 280 = .ok (.iinc 5 1, 3) := by decide +kernel
theorem dL_isBudget_283 : decode cL_isBudget 283 = .ok (.goto (-182), 3) := by decide +kernel
theorem dL_isBudget_286 : decode cL_isBudget 286 = .ok (.aload_n 0, 1) := by decide +kernel
theorem dL_isBudget_287 : decode cL_isBudget 287 = .ok (.iload_n 1, 1) := by decide +kernel
theorem dL_isBudget_288 : decode cL_isBudget 288 = .ok (.iconst 0, 1) := by decide +kernel
theorem dL_isBudget_289 : decode cL_isBudget 289 = .ok (.invokevirtual 79, 3) := by decide +kernel
theorem dL_isBudget_292 : decode cL_isBudget 292 = .ok (.lstore 5, 2) := by decide +kernel
theorem dL_isBudget_294 : decode cL_isBudget 294 = .ok (.aload_n 0, 1) := by decide +kernel
theorem dL_isBudget_295 : decode cL_isBudget 295 = .ok (.iload_n 1, 1) := by decide +kernel
theorem dL_isBudget_296 : decode cL_isBudget 296 = .ok (.iconst 1, 1) := by decide +kernel
theorem dL_isBudget_297 : decode cL_isBudget 297 = .ok (.invokevirtual 79, 3) := by decide +kernel
theorem dL_isBudget_300 : decode cL_isBudget 300 = .ok (.lstore 7, 2) := by decide +kernel
theorem dL_isBudget_302 : decode cL_isBudget 302 = .ok (.iload 4, 2) := by decide +kernel
theorem dL_isBudget_304 : decode cL_isBudget 304 = .ok (.ifCond .eq 75, 3) := by decide +kernel
theorem dL_isBudget_307 : decode cL_isBudget 307 = .ok (.lload_n 2, 1) := by decide +kernel
theorem dL_isBudget_308 : decode cL_isBudget 308 = .ok (.lload 5, 2) := by decide +kernel
theorem dL_isBudget_310 : decode cL_isBudget 310 = .ok (.lcmp, 1) := by decide +kernel
theorem dL_isBudget_311 : decode cL_isBudget 311 = .ok (.ifCond .ne 68, 3) := by decide +kernel
theorem dL_isBudget_314 : decode cL_isBudget 314 = .ok (.lload 5, 2) := by decide +kernel
theorem dL_isBudget_316 : decode cL_isBudget 316 = .ok (.lconst 0, 1) := by decide +kernel
theorem dL_isBudget_317 : decode cL_isBudget 317 = .ok (.lcmp, 1) := by decide +kernel
theorem dL_isBudget_318 : decode cL_isBudget 318 = .ok (.ifCond .ge 15, 3) := by decide +kernel
theorem dL_isBudget_321 : decode cL_isBudget 321 = .ok (.lload 7, 2) := by decide +kernel
theorem dL_isBudget_323 : decode cL_isBudget 323 = .ok (.ldc2_w 83, 3) := by decide +kernel
theorem dL_isBudget_326 : decode cL_isBudget 326 = .ok (.lcmp, 1) := by decide +kernel
theorem dL_isBudget_327 : decode cL_isBudget 327 = .ok (.ifCond .ne 52, 3) := by decide +kernel
theorem dL_isBudget_330 : decode cL_isBudget 330 = .ok (.goto 45, 3) := by decide +kernel
theorem dL_isBudget_333 : decode cL_isBudget 333 = .ok (.lload 7, 2) := by decide +kernel
theorem dL_isBudget_335 : decode cL_isBudget 335 = .ok (.lconst 0, 1) := by decide +kernel
theorem dL_isBudget_336 : decode cL_isBudget 336 = .ok (.lcmp, 1) := by decide +kernel
theorem dL_isBudget_337 : decode cL_isBudget 337 = .ok (.ifCond .lt 42, 3) := by decide +kernel
theorem dL_isBudget_340 : decode cL_isBudget 340 = .ok (.lload 7, 2) := by decide +kernel
theorem dL_isBudget_342 : decode cL_isBudget 342 = .ok (.lload 7, 2) := by decide +kernel
theorem dL_isBudget_344 : decode cL_isBudget 344 = .ok (.lmul, 1) := by decide +kernel
theorem dL_isBudget_345 : decode cL_isBudget 345 = .ok (.lload 5, 2) := by decide +kernel
theorem dL_isBudget_347 : decode cL_isBudget 347 = .ok (.lcmp, 1) := by decide +kernel
theorem dL_isBudget_348 : decode cL_isBudget 348 = .ok (.ifCond .gt 31, 3) := by decide +kernel
theorem dL_isBudget_351 : decode cL_isBudget 351 = .ok (.lload 7, 2) := by decide +kernel
theorem dL_isBudget_353 : decode cL_isBudget 353 = .ok (.ldc2_w 115, 3) := by decide +kernel
theorem dL_isBudget_356 : decode cL_isBudget 356 = .ok (.lcmp, 1) := by decide +kernel
theorem dL_isBudget_357 : decode cL_isBudget 357 = .ok (.ifCond .gt 18, 3) := by decide +kernel
theorem dL_isBudget_360 : decode cL_isBudget 360 = .ok (.lload 7, 2) := by decide +kernel
theorem dL_isBudget_362 : decode cL_isBudget 362 = .ok (.lconst 1, 1) := by decide +kernel
theorem dL_isBudget_363 : decode cL_isBudget 363 = .ok (.ladd, 1) := by decide +kernel
theorem dL_isBudget_364 : decode cL_isBudget 364 = .ok (.lload 7, 2) := by decide +kernel
theorem dL_isBudget_366 : decode cL_isBudget 366 = .ok (.lconst 1, 1) := by decide +kernel
theorem dL_isBudget_367 : decode cL_isBudget 367 = .ok (.ladd, 1) := by decide +kernel
theorem dL_isBudget_368 : decode cL_isBudget 368 = .ok (.lmul, 1) := by decide +kernel
theorem dL_isBudget_369 : decode cL_isBudget 369 = .ok (.lload 5, 2) := by decide +kernel
theorem dL_isBudget_371 : decode cL_isBudget 371 = .ok (.lcmp, 1) := by decide +kernel
theorem dL_isBudget_372 : decode cL_isBudget 372 = .ok (.ifCond .le 7, 3) := by decide +kernel
theorem dL_isBudget_375 : decode cL_isBudget 375 = .ok (.iconst 1, 1) := by decide +kernel
theorem dL_isBudget_376 : decode cL_isBudget 376 = .ok (.goto 4, 3) := by decide +kernel
theorem dL_isBudget_379 : decode cL_isBudget 379 = .ok (.iconst 0, 1) := by decide +kernel
theorem dL_isBudget_380 : decode cL_isBudget 380 = .ok (.istore 4, 2) := by decide +kernel
theorem dL_isBudget_382 : decode cL_isBudget 382 = .ok (.aload_n 0, 1) := by decide +kernel
theorem dL_isBudget_383 : decode cL_isBudget 383 = .ok (.iload_n 1, 1) := by decide +kernel
theorem dL_isBudget_384 : decode cL_isBudget 384 = .ok (.iconst 3, 1) := by decide +kernel
theorem dL_isBudget_385 : decode cL_isBudget 385 = .ok (.invokevirtual 79, 3) := by decide +kernel
theorem dL_isBudget_388 : decode cL_isBudget 388 = .ok (.lstore 9, 2) := by decide +kernel
theorem dL_isBudget_390 : decode cL_isBudget 390 = .ok (.iload 4, 2) := by decide +kernel
theorem dL_isBudget_392 : decode cL_isBudget 392 = .ok (.ifCond .eq 68, 3) := by decide +kernel
theorem dL_isBudget_395 : decode cL_isBudget 395 = .ok (.aload_n 0, 1) := by decide +kernel
theorem dL_isBudget_396 : decode cL_isBudget 396 = .ok (.iload_n 1, 1) := by decide +kernel
theorem dL_isBudget_397 : decode cL_isBudget 397 = .ok (.iconst 4, 1) := by decide +kernel
theorem dL_isBudget_398 : decode cL_isBudget 398 = .ok (.invokevirtual 79, 3) := by decide +kernel
theorem dL_isBudget_401 : decode cL_isBudget 401 = .ok (.lload 7, 2) := by decide +kernel
theorem dL_isBudget_403 : decode cL_isBudget 403 = .ok (.ldc2_w 83, 3) := by decide +kernel
theorem dL_isBudget_406 : decode cL_isBudget 406 = .ok (.lcmp, 1) := by decide +kernel
theorem dL_isBudget_407 : decode cL_isBudget 407 = .ok (.ifCond .eq 12, 3) := by decide +kernel
theorem dL_isBudget_410 : decode cL_isBudget 410 = .ok (.lload 9, 2) := by decide +kernel
theorem dL_isBudget_412 : decode cL_isBudget 412 = .ok (.ldc2_w 83, 3) := by decide +kernel
theorem dL_isBudget_415 : decode cL_isBudget 415 = .ok (.lcmp, 1) := by decide +kernel
theorem dL_isBudget_416 : decode cL_isBudget 416 = .ok (.ifCond .ne 9, 3) := by decide +kernel
theorem dL_isBudget_419 : decode cL_isBudget 419 = .ok (.ldc2_w 83, 3) := by decide +kernel
theorem dL_isBudget_422 : decode cL_isBudget 422 = .ok (.goto 12, 3) := by decide +kernel
theorem dL_isBudget_425 : decode cL_isBudget 425 = .ok (.lload 7, 2) := by decide +kernel
theorem dL_isBudget_427 : decode cL_isBudget 427 = .ok (.lload 9, 2) := by decide +kernel
theorem dL_isBudget_429 : decode cL_isBudget 429 = .ok (.lmul, 1) := by decide +kernel
theorem dL_isBudget_430 : decode cL_isBudget 430 = .ok (.ldc2_w 117, 3) := by decide +kernel
theorem dL_isBudget_433 : decode cL_isBudget 433 = .ok (.ldiv, 1) := by decide +kernel
theorem dL_isBudget_434 : decode cL_isBudget 434 = .ok (.lcmp, 1) := by decide +kernel
theorem dL_isBudget_435 : decode cL_isBudget 435 = .ok (.ifCond .ne 25, 3) := by decide +kernel
theorem dL_isBudget_438 : decode cL_isBudget 438 = .ok (.lload 9, 2) := by decide +kernel
theorem dL_isBudget_440 : decode cL_isBudget 440 = .ok (.ldc2_w 83, 3) := by decide +kernel
theorem dL_isBudget_443 : decode cL_isBudget 443 = .ok (.lcmp, 1) := by decide +kernel
theorem dL_isBudget_444 : decode cL_isBudget 444 = .ok (.ifCond .lt 16, 3) := by decide +kernel
theorem dL_isBudget_447 : decode cL_isBudget 447 = .ok (.lload 9, 2) := by decide +kernel
theorem dL_isBudget_449 : decode cL_isBudget 449 = .ok (.ldc2_w 119, 3) := by decide +kernel
theorem dL_isBudget_452 : decode cL_isBudget 452 = .ok (.lcmp, 1) := by decide +kernel
theorem dL_isBudget_453 : decode cL_isBudget 453 = .ok (.ifCond .ge 7, 3) := by decide +kernel
theorem dL_isBudget_456 : decode cL_isBudget 456 = .ok (.iconst 1, 1) := by decide +kernel
theorem dL_isBudget_457 : decode cL_isBudget 457 = .ok (.goto 4, 3) := by decide +kernel
theorem dL_isBudget_460 : decode cL_isBudget 460 = .ok (.iconst 0, 1) := by decide +kernel
theorem dL_isBudget_461 : decode cL_isBudget 461 = .ok (.istore 4, 2) := by decide +kernel
theorem dL_isBudget_463 : decode cL_isBudget 463 = .ok (.iconst 0, 1) := by decide +kernel
theorem dL_isBudget_464 : decode cL_isBudget 464 = .ok (.istore 11, 2) := by decide +kernel
theorem dL_isBudget_466 : decode cL_isBudget 466 = .ok (.iconst 0, 1) := by decide +kernel
theorem dL_isBudget_467 : decode cL_isBudget 467 = .ok (.istore 12, 2) := by decide +kernel
theorem dL_isBudget_469 : decode cL_isBudget 469 = .ok (.iload 12, 2) := by decide +kernel
theorem dL_isBudget_471 : decode cL_isBudget 471 = .ok (.bipush 6, 2) := by decide +kernel
theorem dL_isBudget_473 : decode cL_isBudget 473 = .ok (.if_icmp .ge 155, 3) := by decide +kernel
theorem dL_isBudget_476 : decode cL_isBudget 476 = .ok (.iload 4, 2) := by decide +kernel
theorem dL_isBudget_478 : decode cL_isBudget 478 = .ok (.ifCond .eq 150, 3) := by decide +kernel
theorem dL_isBudget_481 : decode cL_isBudget 481 = .ok (.aload_n 0, 1) := by decide +kernel
theorem dL_isBudget_482 : decode cL_isBudget 482 = .ok (.iload_n 1, 1) := by decide +kernel
theorem dL_isBudget_483 : decode cL_isBudget 483 = .ok (.iload 12, 2) := by decide +kernel
theorem dL_isBudget_485 : decode cL_isBudget 485 = .ok (.invokevirtual 121, 3) := by decide +kernel
theorem dL_isBudget_488 : decode cL_isBudget 488 = .ok (.istore 13, 2) := by decide +kernel
theorem dL_isBudget_490 : decode cL_isBudget 490 = .ok (.iload 12, 2) := by decide +kernel
theorem dL_isBudget_492 : decode cL_isBudget 492 = .ok (.ifCond .ne 8, 3) := by decide +kernel
theorem dL_isBudget_495 : decode cL_isBudget 495 = .ok (.iload 13, 2) := by decide +kernel
theorem dL_isBudget_497 : decode cL_isBudget 497 = .ok (.goto 12, 3) := by decide +kernel
theorem dL_isBudget_500 : decode cL_isBudget 500 = .ok (.aload_n 0, 1) := by decide +kernel
theorem dL_isBudget_501 : decode cL_isBudget 501 = .ok (.iload_n 1, 1) := by decide +kernel
theorem dL_isBudget_502 : decode cL_isBudget 502 = .ok (.iload 12, 2) := by decide +kernel
theorem dL_isBudget_504 : decode cL_isBudget 504 = .ok (.iconst 1, 1) := by decide +kernel
theorem dL_isBudget_505 : decode cL_isBudget 505 = .ok (.isub, 1) := by decide +kernel
theorem dL_isBudget_506 : decode cL_isBudget 506 = .ok (.invokevirtual 121, 3) := by decide +kernel
theorem dL_isBudget_509 : decode cL_isBudget 509 = .ok (.istore 14, 2) := by decide +kernel
theorem dL_isBudget_511 : decode cL_isBudget 511 = .ok (.aload_n 0, 1) := by decide +kernel
theorem dL_isBudget_512 : decode cL_isBudget 512 = .ok (.iload_n 1, 1) := by decide +kernel
theorem dL_isBudget_513 : decode cL_isBudget 513 = .ok (.iload 14, 2) := by decide +kernel
theorem dL_isBudget_515 : decode cL_isBudget 515 = .ok (.iconst 0, 1) := by decide +kernel
theorem dL_isBudget_516 : decode cL_isBudget 516 = .ok (.invokevirtual 109, 3) := by decide +kernel
theorem dL_isBudget_519 : decode cL_isBudget 519 = .ok (.lstore 15, 2) := by decide +kernel
theorem dL_isBudget_521 : decode cL_isBudget 521 = .ok (.lload 15, 2) := by decide +kernel
theorem dL_isBudget_523 : decode cL_isBudget 523 = .ok (.aload_n 0, 1) := by decide +kernel
theorem dL_isBudget_524 : decode cL_isBudget 524 = .ok (.iload_n 1, 1) := by decide +kernel
theorem dL_isBudget_525 : decode cL_isBudget 525 = .ok (.iload 13, 2) := by decide +kernel
theorem dL_isBudget_527 : decode cL_isBudget 527 = .ok (.iconst 0, 1) := by decide +kernel
theorem dL_isBudget_528 : decode cL_isBudget 528 = .ok (.invokevirtual 109, 3) := by decide +kernel
theorem dL_isBudget_531 : decode cL_isBudget 531 = .ok (.lcmp, 1) := by decide +kernel
theorem dL_isBudget_532 : decode cL_isBudget 532 = .ok (.ifCond .gt 24, 3) := by decide +kernel
theorem dL_isBudget_535 : decode cL_isBudget 535 = .ok (.lload 15, 2) := by decide +kernel
theorem dL_isBudget_537 : decode cL_isBudget 537 = .ok (.aload_n 0, 1) := by decide +kernel
theorem dL_isBudget_538 : decode cL_isBudget 538 = .ok (.iload_n 1, 1) := by decide +kernel
theorem dL_isBudget_539 : decode cL_isBudget 539 = .ok (.iload 13, 2) := by decide +kernel
theorem dL_isBudget_541 : decode cL_isBudget 541 = .ok (.iconst 0, 1) := by decide +kernel
theorem dL_isBudget_542 : decode cL_isBudget 542 = .ok (.invokevirtual 109, 3) := by decide +kernel
theorem dL_isBudget_545 : decode cL_isBudget 545 = .ok (.lcmp, 1) := by decide +kernel
theorem dL_isBudget_546 : decode cL_isBudget 546 = .ok (.ifCond .ne 14, 3) := by decide +kernel
theorem dL_isBudget_549 : decode cL_isBudget 549 = .ok (.iload 14, 2) := by decide +kernel
theorem dL_isBudget_551 : decode cL_isBudget 551 = .ok (.iload 13, 2) := by decide +kernel
theorem dL_isBudget_553 : decode cL_isBudget 553 = .ok (.if_icmp .gt 7, 3) := by decide +kernel
theorem dL_isBudget_556 : decode cL_isBudget 556 = .ok (.iconst 1, 1) := by decide +kernel
theorem dL_isBudget_557 : decode cL_isBudget 557 = .ok (.goto 4, 3) := by decide +kernel
theorem dL_isBudget_560 : decode cL_isBudget 560 = .ok (.iconst 0, 1) := by decide +kernel
theorem dL_isBudget_561 : decode cL_isBudget 561 = .ok (.istore 4, 2) := by decide +kernel
theorem dL_isBudget_563 : decode cL_isBudget 563 = .ok (.iload 4, 2) := by decide +kernel
theorem dL_isBudget_565 : decode cL_isBudget 565 = .ok (.ifCond .eq 45, 3) := by decide +kernel
theorem dL_isBudget_568 : decode cL_isBudget 568 = .ok (.aload_n 0, 1) := by decide +kernel
theorem dL_isBudget_569 : decode cL_isBudget 569 = .ok (.iload_n 1, 1) := by decide +kernel
theorem dL_isBudget_570 : decode cL_isBudget 570 = .ok (.iload 13, 2) := by decide +kernel
theorem dL_isBudget_572 : decode cL_isBudget 572 = .ok (.iconst 1, 1) := by decide +kernel
theorem dL_isBudget_573 : decode cL_isBudget 573 = .ok (.invokevirtual 109, 3) := by decide +kernel
theorem dL_isBudget_576 : decode cL_isBudget 576 = .ok (.lload 5, 2) := by decide +kernel
theorem dL_isBudget_578 : decode cL_isBudget 578 = .ok (.lconst 0, 1) := by decide +kernel
theorem dL_isBudget_579 : decode cL_isBudget 579 = .ok (.lcmp, 1) := by decide +kernel
theorem dL_isBudget_580 : decode cL_isBudget 580 = .ok (.ifCond .ne 7, 3) := by decide +kernel
theorem dL_isBudget_583 : decode cL_isBudget 583 = .ok (.lconst 0, 1) := by decide +kernel
theorem dL_isBudget_584 : decode cL_isBudget 584 = .ok (.goto 18, 3) := by decide +kernel
theorem dL_isBudget_587 : decode cL_isBudget 587 = .ok (.ldc2_w 117, 3) := by decide +kernel
theorem dL_isBudget_590 : decode cL_isBudget 590 = .ok (.aload_n 0, 1) := by decide +kernel
theorem dL_isBudget_591 : decode cL_isBudget 591 = .ok (.iload_n 1, 1) := by decide +kernel
theorem dL_isBudget_592 : decode cL_isBudget 592 = .ok (.iload 13, 2) := by decide +kernel
theorem dL_isBudget_594 : decode cL_isBudget 594 = .ok (.iconst 0, 1) := by decide +kernel
theorem dL_isBudget_595 : decode cL_isBudget 595 = .ok (.invokevirtual 109, 3) := by decide +kernel
theorem dL_isBudget_598 : decode cL_isBudget 598 = .ok (.lmul, 1) := by decide +kernel
theorem dL_isBudget_599 : decode cL_isBudget 599 = .ok (.lload 5, 2) := by decide +kernel
theorem dL_isBudget_601 : decode cL_isBudget 601 = .ok (.ldiv, 1) := by decide +kernel
theorem dL_isBudget_602 : decode cL_isBudget 602 = .ok (.lcmp, 1) := by decide +kernel
theorem dL_isBudget_603 : decode cL_isBudget 603 = .ok (.ifCond .ne 7, 3) := by decide +kernel
theorem dL_isBudget_606 : decode cL_isBudget 606 = .ok (.iconst 1, 1) := by decide +kernel
theorem dL_isBudget_607 : decode cL_isBudget 607 = .ok (.goto 4, 3) := by decide +kernel
theorem dL_isBudget_610 : decode cL_isBudget 610 = .ok (.iconst 0, 1) := by decide +kernel
theorem dL_isBudget_611 : decode cL_isBudget 611 = .ok (.istore 4, 2) := by decide +kernel
theorem dL_isBudget_613 : decode cL_isBudget 613 = .ok (.iload 11, 2) := by decide +kernel
theorem dL_isBudget_615 : decode cL_isBudget 615 = .ok (.iconst 1, 1) := by decide +kernel
theorem dL_isBudget_616 : decode cL_isBudget 616 = .ok (.iload 13, 2) := by decide +kernel
theorem dL_isBudget_618 : decode cL_isBudget 618 = .ok (.ishl, 1) := by decide +kernel
theorem dL_isBudget_619 : decode cL_isBudget 619 = .ok (.ior, 1) := by decide +kernel
theorem dL_isBudget_620 : decode cL_isBudget 620 = .ok (.istore 11, 2) := by decide +kernel
theorem dL_isBudget_622 : decode cL_isBudget 622 = .ok (.iinc 12 1, 3) := by decide +kernel
theorem dL_isBudget_625 : decode cL_isBudget 625 = .ok (.goto (-156), 3) := by decide +kernel
theorem dL_isBudget_628 : decode cL_isBudget 628 = .ok (.iload 4, 2) := by decide +kernel
theorem dL_isBudget_630 : decode cL_isBudget 630 = .ok (.ifCond .eq 35, 3) := by decide +kernel
theorem dL_isBudget_633 : decode cL_isBudget 633 = .ok (.iload 11, 2) := by decide +kernel
theorem dL_isBudget_635 : decode cL_isBudget 635 = .ok (.bipush 63, 2) := by decide +kernel
theorem dL_isBudget_637 : decode cL_isBudget 637 = .ok (.if_icmp .ne 28, 3) := by decide +kernel
theorem dL_isBudget_640 : decode cL_isBudget 640 = .ok (.aload_n 0, 1) := by decide +kernel
theorem dL_isBudget_641 : decode cL_isBudget 641 = .ok (.iload_n 1, 1) := by decide +kernel
theorem dL_isBudget_642 : decode cL_isBudget 642 = .ok (.bipush 6, 2) := by decide +kernel
theorem dL_isBudget_644 : decode cL_isBudget 644 = .ok (.invokevirtual 121, 3) := by decide +kernel
theorem dL_isBudget_647 : decode cL_isBudget 647 = .ok (.iconst (-1), 1) := by decide +kernel
theorem dL_isBudget_648 : decode cL_isBudget 648 = .ok (.if_icmp .ne 17, 3) := by decide +kernel
theorem dL_isBudget_651 : decode cL_isBudget 651 = .ok (.aload_n 0, 1) := by decide +kernel
theorem dL_isBudget_652 : decode cL_isBudget 652 = .ok (.iload_n 1, 1) := by decide +kernel
theorem dL_isBudget_653 : decode cL_isBudget 653 = .ok (.invokevirtual 58, 3) := by decide +kernel
theorem dL_isBudget_656 : decode cL_isBudget 656 = .ok (.bipush 60, 2) := by decide +kernel
theorem dL_isBudget_658 : decode cL_isBudget 658 = .ok (.if_icmp .ge 7, 3) := by decide +kernel
theorem dL_isBudget_661 : decode cL_isBudget 661 = .ok (.iconst 1, 1) := by decide +kernel
theorem dL_isBudget_662 : decode cL_isBudget 662 = .ok (.goto 4, 3) := by decide +kernel
theorem dL_isBudget_665 : decode cL_isBudget 665 = .ok (.iconst 0, 1) := by decide +kernel
theorem dL_isBudget_666 : decode cL_isBudget 666 = .ok (.ireturn, 1) := by decide +kernel
