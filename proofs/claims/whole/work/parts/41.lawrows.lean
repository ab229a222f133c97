set_option maxRecDepth 20000 in
theorem ggL_shape_X6_shape : GoodIn wsL_shape wsX6_shape := goodIn_ca (goodIn_ca (goodIn_r _ [7, 8, 9, 10, 6, 11, 12, 13, 14, 15, 16, 17, 18, 19, 20, 21, 22, 23, 24, 25, 26, 27, 28, 29, 30, 31, 32, 33, 34, 35, 36, 37, 38, 39, 40, 41, 42, 43, 44, 45, 46, 47, 48, 49] (by decide +kernel) (by decide +kernel)) (goodIn_sub (fun _ h => List.mem_cons_of_mem _ (List.mem_append_left _ (List.mem_append_right _ h))) (by decide +kernel))) (goodIn_sub (fun _ h => List.mem_cons_of_mem _ (List.mem_append_right _ h)) (by decide +kernel))
set_option maxRecDepth 20000 in
theorem gL_shape_X6_shape : GoodIn wsL_shape (wsV RL 7 RX6 yX6_shape wsX6_shape) := goodIn_app (goodIn_of _ (by decide +kernel)) ggL_shape_X6_shape
theorem dL_shape_0 : decode cL_shape 0 = .ok (.aload 5, 2) := by decide +kernel
theorem dL_shape_2 : decode cL_shape 2 = .ok (.iconst 0, 1) := by decide +kernel
theorem dL_shape_3 : decode cL_shape 3 = .ok (.aload_n 0, 1) := by decide +kernel
theorem dL_shape_4 : decode cL_shape 4 = .ok (.iload_n 1, 1) := by decide +kernel
theorem dL_shape_5 : decode cL_shape 5 = .ok (.iload_n 2, 1) := by decide +kernel
theorem dL_shape_6 : decode cL_shape 6 = .ok (.iload_n 3, 1) := by decide +kernel
theorem dL_shape_7 : decode cL_shape 7 = .ok (.iload 4, 2) := by decide +kernel
theorem dL_shape_9 : decode cL_shape 9 = .ok (.invokevirtual 7, 3) := by decide +kernel
theorem dL_shape_12 : decode cL_shape 12 = .ok (.i2l, 1) := by decide +kernel
theorem dL_shape_13 : decode cL_shape 13 = .ok (.lastore, 1) := by decide +kernel
theorem dL_shape_14 : decode cL_shape 14 = .ok (.goto 11, 3) := by decide +kernel
theorem dL_shape_17 : decode cL_shape 17 = .ok (.astore 6, 2) := by decide +kernel
theorem dL_shape_19 : decode cL_shape 19 = .ok (.iconst 1, 1) := by decide +kernel
theorem dL_shape_20 : decode cL_shape 20 = .ok (.ireturn, 1) := by decide +kernel
theorem dL_shape_21 : decode cL_shape 21 = .ok (.astore 6, 2) := by decide +kernel
theorem dL_shape_23 : decode cL_shape 23 = .ok (.iconst 2, 1) := by decide +kernel
theorem dL_shape_24 : decode cL_shape 24 = .ok (.ireturn, 1) := by decide +kernel
theorem dL_shape_25 : decode cL_shape 25 = .ok (.iconst 0, 1) := by decide +kernel
theorem dL_shape_26 : decode cL_shape 26 = .ok (.ireturn, 1) := by decide +kernel
set_option maxRecDepth 20000 in
theorem ggL_read_X6_read : GoodIn wsL_read wsX6_read := goodIn_ca (goodIn_ca (goodIn_ca (goodIn_r _ [8, 9, 10, 11, 12, 13, 14, 7, 15, 16, 17, 18, 19, 20, 21, 22, 23, 24, 25, 26, 27, 28, 29, 30, 31, 32, 33, 34, 35, 36, 37, 38, 39, 40, 41, 42, 43, 44, 45, 46, 47, 48, 49, 50, 51, 52, 53, 54, 55, 56, 57, 58] (by decide +kernel) (by decide +kernel)) (goodIn_sub (fun _ h => List.mem_cons_of_mem _ (List.mem_append_left _ (List.mem_append_left _ (List.mem_append_right _ h)))) (by decide +kernel))) (goodIn_sub (fun _ h => List.mem_cons_of_mem _ (List.mem_append_left _ (List.mem_append_right _ h))) (by decide +kernel))) (goodIn_sub (fun _ h => List.mem_cons_of_mem _ (List.mem_append_right _ h)) (by decide +kernel))
set_option maxRecDepth 20000 in
theorem gL_read_X6_read : GoodIn wsL_read (wsV RL 17 RX6 yX6_read wsX6_read) := goodIn_app (goodIn_of _ (by decide +kernel)) ggL_read_X6_read
theorem dL_read_0 : decode cL_read 0 = .ok (.aload_n 3, 1) := by decide +kernel
theorem dL_read_1 : decode cL_read 1 = .ok (.iconst 0, 1) := by decide +kernel
theorem dL_read_2 : decode cL_read 2 = .ok (.aload_n 0, 1) := by decide +kernel
theorem dL_read_3 : decode cL_read 3 = .ok (.iload_n 1, 1) := by decide +kernel
theorem dL_read_4 : decode cL_read 4 = .ok (.iload_n 2, 1) := by decide +kernel
theorem dL_read_5 : decode cL_read 5 = .ok (.invokevirtual 17, 3) := by decide +kernel
theorem dL_read_8 : decode cL_read 8 = .ok (.i2l, 1) := by decide +kernel
theorem dL_read_9 : decode cL_read 9 = .ok (.lastore, 1) := by decide +kernel
theorem dL_read_10 : decode cL_read 10 = .ok (.goto 15, 3) := by decide +kernel
theorem dL_read_13 : decode cL_read 13 = .ok (.astore 4, 2) := by decide +kernel
theorem dL_read_15 : decode cL_read 15 = .ok (.iconst 1, 1) := by decide +kernel
theorem dL_read_16 : decode cL_read 16 = .ok (.ireturn, 1) := by decide +kernel
theorem dL_read_17 : decode cL_read 17 = .ok (.astore 4, 2) := by decide +kernel
theorem dL_read_19 : decode cL_read 19 = .ok (.iconst 2, 1) := by decide +kernel
theorem dL_read_20 : decode cL_read 20 = .ok (.ireturn, 1) := by decide +kernel
theorem dL_read_21 : decode cL_read 21 = .ok (.astore 4, 2) := by decide +kernel
theorem dL_read_23 : decode cL_read 23 = .ok (.iconst 3, 1) := by decide +kernel
theorem dL_read_24 : decode cL_read 24 = .ok (.ireturn, 1) := by decide +kernel
theorem dL_read_25 : decode cL_read 25 = .ok (.iconst 0, 1) := by decide +kernel
theorem dL_read_26 : decode cL_read 26 = .ok (.ireturn, 1) := by decide +kernel
set_option maxRecDepth 20000 in
theorem ggL_unit_X6_unit : GoodIn wsL_unit wsX6_unit := goodIn_ca (goodIn_ca (goodIn_r _ [7, 8, 9, 10, 11, 12, 6, 13, 14, 15, 16, 17, 18, 19, 20, 21, 22, 23, 24, 25, 26, 27, 28, 29, 30, 31, 32, 33, 34, 35, 36, 37, 38, 39, 40, 41, 42, 43, 44, 45, 46, 47, 48, 49, 50, 51, 52, 53, 54, 55, 56, 57, 58, 59, 60, 61, 62, 63, 64, 65, 66, 67, 68, 69, 70, 71, 72, 73, 74, 75, 76, 77, 78, 79, 80, 81, 82, 83] (by decide +kernel) (by decide +kernel)) (goodIn_sub (fun _ h => List.mem_cons_of_mem _ (List.mem_append_left _ (List.mem_append_right _ h))) (by decide +kernel))) (goodIn_sub (fun _ h => List.mem_cons_of_mem _ (List.mem_append_right _ h)) (by decide +kernel))
set_option maxRecDepth 20000 in
theorem gL_unit_X6_unit : GoodIn wsL_unit (wsV RL 23 RX6 yX6_unit wsX6_unit) := goodIn_app (goodIn_of _ (by decide +kernel)) ggL_unit_X6_unit
theorem dL_unit_0 : decode cL_unit 0 = .ok (.aload 4, 2) := by decide +kernel
theorem dL_unit_2 : decode cL_unit 2 = .ok (.iconst 0, 1) := by decide +kernel
theorem dL_unit_3 : decode cL_unit 3 = .ok (.aload_n 0, 1) := by decide +kernel
theorem dL_unit_4 : decode cL_unit 4 = .ok (.iload_n 1, 1) := by decide +kernel
theorem dL_unit_5 : decode cL_unit 5 = .ok (.iload_n 2, 1) := by decide +kernel
theorem dL_unit_6 : decode cL_unit 6 = .ok (.iload_n 3, 1) := by decide +kernel
theorem dL_unit_7 : decode cL_unit 7 = .ok (.invokevirtual 23, 3) := by decide +kernel
theorem dL_unit_10 : decode cL_unit 10 = .ok (.i2l, 1) := by decide +kernel
theorem dL_unit_11 : decode cL_unit 11 = .ok (.lastore, 1) := by decide +kernel
theorem dL_unit_12 : decode cL_unit 12 = .ok (.goto 11, 3) := by decide +kernel
theorem dL_unit_15 : decode cL_unit 15 = .ok (.astore 5, 2) := by decide +kernel
theorem dL_unit_17 : decode cL_unit 17 = .ok (.iconst 1, 1) := by decide +kernel
theorem dL_unit_18 : decode cL_unit 18 = .ok (.ireturn, 1) := by decide +kernel
theorem dL_unit_19 : decode cL_unit 19 = .ok (.astore 5, 2) := by decide +kernel
theorem dL_unit_21 : decode cL_unit 21 = .ok (.iconst 2, 1) := by decide +kernel
theorem dL_unit_22 : decode cL_unit 22 = .ok (.ireturn, 1) := by decide +kernel
theorem dL_unit_23 : decode cL_unit 23 = .ok (.iconst 0, 1) := by decide +kernel
theorem dL_unit_24 : decode cL_unit 24 = .ok (.ireturn, 1) := by decide +kernel
set_option maxRecDepth 20000 in
theorem ggL_together_X6_together : GoodIn wsL_together wsX6_together := goodIn_ca (goodIn_ca (goodIn_r _ [7, 8, 9, 10, 11, 12, 6, 13, 14, 15, 16, 17, 18, 19, 20, 21, 22, 23, 24, 25, 26, 27, 28, 29, 30, 31, 32, 33, 34, 35, 36, 37, 38, 39, 40, 41, 42] (by decide +kernel) (by decide +kernel)) (goodIn_sub (fun _ h => List.mem_cons_of_mem _ (List.mem_append_left _ (List.mem_append_right _ h))) (by decide +kernel))) (goodIn_sub (fun _ h => List.mem_cons_of_mem _ (List.mem_append_right _ h)) (by decide +kernel))
set_option maxRecDepth 20000 in
theorem gL_together_X6_together : GoodIn wsL_together (wsV RL 27 RX6 yX6_together wsX6_together) := goodIn_app (goodIn_of _ (by decide +kernel)) ggL_together_X6_together
theorem dL_together_0 : decode cL_together 0 = .ok (.aload 4, 2) := by decide +kernel
theorem dL_together_2 : decode cL_together 2 = .ok (.iconst 0, 1) := by decide +kernel
theorem dL_together_3 : decode cL_together 3 = .ok (.aload_n 0, 1) := by decide +kernel
theorem dL_together_4 : decode cL_together 4 = .ok (.iload_n 1, 1) := by decide +kernel
theorem dL_together_5 : decode cL_together 5 = .ok (.iload_n 2, 1) := by decide +kernel
theorem dL_together_6 : decode cL_together 6 = .ok (.iload_n 3, 1) := by decide +kernel
theorem dL_together_7 : decode cL_together 7 = .ok (.invokevirtual 27, 3) := by decide +kernel
theorem dL_together_10 : decode cL_together 10 = .ok (.i2l, 1) := by decide +kernel
theorem dL_together_11 : decode cL_together 11 = .ok (.lastore, 1) := by decide +kernel
theorem dL_together_12 : decode cL_together 12 = .ok (.goto 11, 3) := by decide +kernel
theorem dL_together_15 : decode cL_together 15 = .ok (.astore 5, 2) := by decide +kernel
theorem dL_together_17 : decode cL_together 17 = .ok (.iconst 1, 1) := by decide +kernel
theorem dL_together_18 : decode cL_together 18 = .ok (.ireturn, 1) := by decide +kernel
theorem dL_together_19 : decode cL_together 19 = .ok (.astore 5, 2) := by decide +kernel
theorem dL_together_21 : decode cL_together 21 = .ok (.iconst 2, 1) := by decide +kernel
theorem dL_together_22 : decode cL_together 22 = .ok (.ireturn, 1) := by decide +kernel
theorem dL_together_23 : decode cL_together 23 = .ok (.iconst 0, 1) := by decide +kernel
theorem dL_together_24 : decode cL_together 24 = .ok (.ireturn, 1) := by decide +kernel
set_option maxRecDepth 20000 in
theorem ggL_input_X6_input : GoodIn wsL_input wsX6_input := goodIn_ca (goodIn_ca (goodIn_r _ [7, 8, 9, 10, 11, 12, 13, 6, 14, 15, 16, 17, 18, 19, 20, 21, 22, 23, 24, 25, 26, 27, 28, 29, 30, 31, 32, 33, 34, 35, 36, 37, 38, 39, 40, 41, 42, 43, 44, 45, 46, 47, 48, 49, 50, 51] (by decide +kernel) (by decide +kernel)) (goodIn_sub (fun _ h => List.mem_cons_of_mem _ (List.mem_append_left _ (List.mem_append_right _ h))) (by decide +kernel))) (goodIn_sub (fun _ h => List.mem_cons_of_mem _ (List.mem_append_right _ h)) (by decide +kernel))
set_option maxRecDepth 20000 in
theorem gL_input_X6_input : GoodIn wsL_input (wsV RL 30 RX6 yX6_input wsX6_input) := goodIn_app (goodIn_of _ (by decide +kernel)) ggL_input_X6_input
theorem dL_input_0 : decode cL_input 0 = .ok (.aload_n 3, 1) := by decide +kernel
theorem dL_input_1 : decode cL_input 1 = .ok (.iconst 0, 1) := by decide +kernel
theorem dL_input_2 : decode cL_input 2 = .ok (.aload_n 0, 1) := by decide +kernel
theorem dL_input_3 : decode cL_input 3 = .ok (.iload_n 1, 1) := by decide +kernel
theorem dL_input_4 : decode cL_input 4 = .ok (.iload_n 2, 1) := by decide +kernel
theorem dL_input_5 : decode cL_input 5 = .ok (.invokevirtual 30, 3) := by decide +kernel
theorem dL_input_8 : decode cL_input 8 = .ok (.i2l, 1) := by decide +kernel
theorem dL_input_9 : decode cL_input 9 = .ok (.lastore, 1) := by decide +kernel
theorem dL_input_10 : decode cL_input 10 = .ok (.goto 11, 3) := by decide +kernel
theorem dL_input_13 : decode cL_input 13 = .ok (.astore 4, 2) := by decide +kernel
theorem dL_input_15 : decode cL_input 15 = .ok (.iconst 1, 1) := by decide +kernel
theorem dL_input_16 : decode cL_input 16 = .ok (.ireturn, 1) := by decide +kernel
theorem dL_input_17 : decode cL_input 17 = .ok (.astore 4, 2) := by decide +kernel
theorem dL_input_19 : decode cL_input 19 = .ok (.iconst 2, 1) := by decide +kernel
theorem dL_input_20 : decode cL_input 20 = .ok (.ireturn, 1) := by decide +kernel
theorem dL_input_21 : decode cL_input 21 = .ok (.iconst 0, 1) := by decide +kernel
theorem dL_input_22 : decode cL_input 22 = .ok (.ireturn, 1) := by decide +kernel
set_option maxRecDepth 20000 in
theorem ggL_type_X6_type : GoodIn wsL_type wsX6_type := goodIn_ca (goodIn_ca (goodIn_r _ [7, 8, 9, 10, 11, 12, 13, 14, 15, 16, 17, 18, 19, 20, 21, 22, 23, 24, 25, 26, 27, 28, 29, 30, 31, 32, 33, 34, 35, 36, 37, 38] (by decide +kernel) (by decide +kernel)) (goodIn_sub (fun _ h => List.mem_cons_of_mem _ (List.mem_append_left _ (List.mem_append_right _ h))) (by decide +kernel))) (goodIn_sub (fun _ h => List.mem_cons_of_mem _ (List.mem_append_right _ h)) (by decide +kernel))
set_option maxRecDepth 20000 in
theorem gL_type_X6_type : GoodIn wsL_type (wsV RL 33 RX6 yX6_type wsX6_type) := goodIn_app (goodIn_of _ (by decide +kernel)) ggL_type_X6_type
theorem dL_type_0 : decode cL_type 0 = .ok (.aload_n 3, 1) := by decide +kernel
theorem dL_type_1 : decode cL_type 1 = .ok (.iconst 0, 1) := by decide +kernel
theorem dL_type_2 : decode cL_type 2 = .ok (.aload_n 0, 1) := by decide +kernel
theorem dL_type_3 : decode cL_type 3 = .ok (.lload_n 1, 1) := by decide +kernel
theorem dL_type_4 : decode cL_type 4 = .ok (.invokevirtual 33, 3) := by decide +kernel
theorem dL_type_7 : decode cL_type 7 = .ok (.i2l, 1) := by decide +kernel
theorem dL_type_8 : decode cL_type 8 = .ok (.lastore, 1) := by decide +kernel
theorem dL_type_9 : decode cL_type 9 = .ok (.goto 11, 3) := by decide +kernel
theorem dL_type_12 : decode cL_type 12 = .ok (.astore 4, 2) := by decide +kernel
theorem dL_type_14 : decode cL_type 14 = .ok (.iconst 1, 1) := by decide +kernel
theorem dL_type_15 : decode cL_type 15 = .ok (.ireturn, 1) := by decide +kernel
theorem dL_type_16 : decode cL_type 16 = .ok (.astore 4, 2) := by decide +kernel
theorem dL_type_18 : decode cL_type 18 = .ok (.iconst 2, 1) := by decide +kernel
theorem dL_type_19 : decode cL_type 19 = .ok (.ireturn, 1) := by decide +kernel
theorem dL_type_20 : decode cL_type 20 = .ok (.iconst 0, 1) := by decide +kernel
theorem dL_type_21 : decode cL_type 21 = .ok (.ireturn, 1) := by decide +kernel
set_option maxRecDepth 20000 in
theorem ggL_model_X6_model : GoodIn wsL_model wsX6_model := goodIn_ca (goodIn_ca (goodIn_r _ [7, 8, 9, 10, 11, 12, 13, 14, 15, 16, 17, 18, 19, 20, 21, 22, 23, 24, 25, 26, 27, 28, 29, 30, 31, 32, 33, 34, 35, 36, 37, 38, 39, 40, 41, 42, 43, 44, 45, 46, 47, 48, 49, 50, 51, 52, 53, 54, 55, 56, 57, 58, 59, 60, 61, 62, 63, 64, 65, 66, 67, 68, 69, 70, 71, 72, 73, 74, 75, 76, 77, 78, 79, 80, 81, 82, 83, 84, 85, 86, 87, 88, 89, 90, 91, 92, 93, 94, 95, 96, 97, 98, 99, 100, 101, 102, 103, 104, 105, 106, 107, 108] (by decide +kernel) (by decide +kernel)) (goodIn_sub (fun _ h => List.mem_cons_of_mem _ (List.mem_append_left _ (List.mem_append_right _ h))) (by decide +kernel))) (goodIn_sub (fun _ h => List.mem_cons_of_mem _ (List.mem_append_right _ h)) (by decide +kernel))
set_option maxRecDepth 20000 in
theorem gL_model_X6_model : GoodIn wsL_model (wsV RL 37 RX6 yX6_model wsX6_model) := goodIn_app (goodIn_of _ (by decide +kernel)) ggL_model_X6_model
theorem dL_model_0 : decode cL_model 0 = .ok (.aload_n 2, 1) := by decide +kernel
theorem dL_model_1 : decode cL_model 1 = .ok (.iconst 0, 1) := by decide +kernel
theorem dL_model_2 : decode cL_model 2 = .ok (.aload_n 0, 1) := by decide +kernel
theorem dL_model_3 : decode cL_model 3 = .ok (.iload_n 1, 1) := by decide +kernel
theorem dL_model_4 : decode cL_model 4 = .ok (.invokevirtual 37, 3) := by decide +kernel
theorem dL_model_7 : decode cL_model 7 = .ok (.i2l, 1) := by decide +kernel
theorem dL_model_8 : decode cL_model 8 = .ok (.lastore, 1) := by decide +kernel
theorem dL_model_9 : decode cL_model 9 = .ok (.goto 9, 3) := by decide +kernel
theorem dL_model_12 : decode cL_model 12 = .ok (.astore_n 3, 1) := by decide +kernel
theorem dL_model_13 : decode cL_model 13 = .ok (.iconst 1, 1) := by decide +kernel
theorem dL_model_14 : decode cL_model 14 = .ok (.ireturn, 1) := by decide +kernel
theorem dL_model_15 : decode cL_model 15 = .ok (.astore_n 3, 1) := by decide +kernel
theorem dL_model_16 : decode cL_model 16 = .ok (.iconst 2, 1) := by decide +kernel
theorem dL_model_17 : decode cL_model 17 = .ok (.ireturn, 1) := by decide +kernel
theorem dL_model_18 : decode cL_model 18 = .ok (.iconst 0, 1) := by decide +kernel
theorem dL_model_19 : decode cL_model 19 = .ok (.ireturn, 1) := by decide +kernel
set_option maxRecDepth 20000 in
theorem ggL_disagrees_X6_disagrees : GoodIn wsL_disagrees wsX6_disagrees := goodIn_ca (goodIn_r _ [6, 7, 8, 9, 10, 11, 12, 5, 13, 14, 15, 16, 17, 18, 19, 20, 21, 22, 23, 24, 25, 26, 27, 28, 29, 30, 31, 32, 33, 34, 35, 36, 37, 38, 39, 40, 41, 42, 43, 44, 45, 46, 47, 48, 49, 50, 51, 52, 53, 54, 55, 56, 57, 58, 59, 60, 61, 62, 63, 64, 65, 66, 67, 68, 69, 70, 71, 72, 73, 74] (by decide +kernel) (by decide +kernel)) (goodIn_sub (fun _ h => List.mem_cons_of_mem _ (List.mem_append_right _ h)) (by decide +kernel))
set_option maxRecDepth 20000 in
theorem gL_disagrees_X6_disagrees : GoodIn wsL_disagrees (wsV RL 41 RX6 yX6_disagrees wsX6_disagrees) := goodIn_app (goodIn_of _ (by decide +kernel)) ggL_disagrees_X6_disagrees
theorem dL_disagrees_0 : decode cL_disagrees 0 = .ok (.aload_n 2, 1) := by decide +kernel
theorem dL_disagrees_1 : decode cL_disagrees 1 = .ok (.iconst 0, 1) := by decide +kernel
theorem dL_disagrees_2 : decode cL_disagrees 2 = .ok (.aload_n 0, 1) := by decide +kernel
theorem dL_disagrees_3 : decode cL_disagrees 3 = .ok (.iload_n 1, 1) := by decide +kernel
theorem dL_disagrees_4 : decode cL_disagrees 4 = .ok (.invokevirtual 41, 3) := by decide +kernel
theorem dL_disagrees_7 : decode cL_disagrees 7 = .ok (.i2l, 1) := by decide +kernel
theorem dL_disagrees_8 : decode cL_disagrees 8 = .ok (.lastore, 1) := by decide +kernel
theorem dL_disagrees_9 : decode cL_disagrees 9 = .ok (.goto 6, 3) := by decide +kernel
theorem dL_disagrees_12 : decode cL_disagrees 12 = .ok (.astore_n 3, 1) := by decide +kernel
theorem dL_disagrees_13 : decode cL_disagrees 13 = .ok (.iconst 1, 1) := by decide +kernel
theorem dL_disagrees_14 : decode cL_disagrees 14 = .ok (.ireturn, 1) := by decide +kernel
theorem dL_disagrees_15 : decode cL_disagrees 15 = .ok (.iconst 0, 1) := by decide +kernel
theorem dL_disagrees_16 : decode cL_disagrees 16 = .ok (.ireturn, 1) := by decide +kernel
set_option maxRecDepth 20000 in
theorem ggL_unitOf_X6_unitOf : GoodIn wsL_unitOf wsX6_unitOf := goodIn_ca (goodIn_r _ [6, 7, 8, 9, 10, 11, 12, 5, 13, 14, 15, 16, 17, 18, 19, 20, 21, 22, 23, 24, 25, 26, 27, 28, 29, 30, 31, 32, 33, 34, 35, 36, 37, 38, 39, 40, 41, 42, 43, 44, 45, 46, 47, 48, 49, 50, 51, 52, 53, 54, 55, 56, 57, 58] (by decide +kernel) (by decide +kernel)) (goodIn_sub (fun _ h => List.mem_cons_of_mem _ (List.mem_append_right _ h)) (by decide +kernel))
set_option maxRecDepth 20000 in
theorem gL_unitOf_X6_unitOf : GoodIn wsL_unitOf (wsV RL 44 RX6 yX6_unitOf wsX6_unitOf) := goodIn_app (goodIn_of _ (by decide +kernel)) ggL_unitOf_X6_unitOf
theorem dL_unitOf_0 : decode cL_unitOf 0 = .ok (.aload_n 3, 1) := by decide +kernel
theorem dL_unitOf_1 : decode cL_unitOf 1 = .ok (.iconst 0, 1) := by decide +kernel
theorem dL_unitOf_2 : decode cL_unitOf 2 = .ok (.aload_n 0, 1) := by decide +kernel
theorem dL_unitOf_3 : decode cL_unitOf 3 = .ok (.iload_n 1, 1) := by decide +kernel
theorem dL_unitOf_4 : decode cL_unitOf 4 = .ok (.iload_n 2, 1) := by decide +kernel
theorem dL_unitOf_5 : decode cL_unitOf 5 = .ok (.invokevirtual 44, 3) := by decide +kernel
theorem dL_unitOf_8 : decode cL_unitOf 8 = .ok (.i2l, 1) := by decide +kernel
theorem dL_unitOf_9 : decode cL_unitOf 9 = .ok (.lastore, 1) := by decide +kernel
theorem dL_unitOf_10 : decode cL_unitOf 10 = .ok (.goto 7, 3) := by decide +kernel
theorem dL_unitOf_13 : decode cL_unitOf 13 = .ok (.astore 4, 2) := by decide +kernel
theorem dL_unitOf_15 : decode cL_unitOf 15 = .ok (.iconst 1, 1) := by decide +kernel
theorem dL_unitOf_16 : decode cL_unitOf 16 = .ok (.ireturn, 1) := by decide +kernel
theorem dL_unitOf_17 : decode cL_unitOf 17 = .ok (.iconst 0, 1) := by decide +kernel
theorem dL_unitOf_18 : decode cL_unitOf 18 = .ok (.ireturn, 1) := by decide +kernel
set_option maxRecDepth 20000 in
theorem ggL_value_X6_value : GoodIn wsL_value wsX6_value := goodIn_ca (goodIn_r _ [6, 7, 8, 9, 10, 11, 5, 12, 13, 14, 15, 16, 17, 18, 19, 20, 21, 22, 23, 24, 25, 26, 27, 28, 29, 30, 31, 32, 33, 34, 35, 36, 37, 38, 39, 40, 41, 42, 43, 44, 45, 46, 47, 48, 49, 50, 51, 52, 53, 54, 55, 56, 57, 58, 59, 60] (by decide +kernel) (by decide +kernel)) (goodIn_sub (fun _ h => List.mem_cons_of_mem _ (List.mem_append_right _ h)) (by decide +kernel))
set_option maxRecDepth 20000 in
theorem gL_value_X6_value : GoodIn wsL_value (wsV RL 48 RX6 yX6_value wsX6_value) := goodIn_app (goodIn_of _ (by decide +kernel)) ggL_value_X6_value
theorem dL_value_0 : decode cL_value 0 = .ok (.aload_n 2, 1) := by decide +kernel
theorem dL_value_1 : decode cL_value 1 = .ok (.iconst 0, 1) := by decide +kernel
theorem dL_value_2 : decode cL_value 2 = .ok (.aload_n 0, 1) := by decide +kernel
theorem dL_value_3 : decode cL_value 3 = .ok (.iload_n 1, 1) := by decide +kernel
theorem dL_value_4 : decode cL_value 4 = .ok (.invokevirtual 48, 3) := by decide +kernel
theorem dL_value_7 : decode cL_value 7 = .ok (.lastore, 1) := by decide +kernel
theorem dL_value_8 : decode cL_value 8 = .ok (.goto 6, 3) := by decide +kernel
theorem dL_value_11 : decode cL_value 11 = .ok (.astore_n 3, 1) := by decide +kernel
theorem dL_value_12 : decode cL_value 12 = .ok (.iconst 1, 1) := by decide +kernel
theorem dL_value_13 : decode cL_value 13 = .ok (.ireturn, 1) := by decide +kernel
theorem dL_value_14 : decode cL_value 14 = .ok (.iconst 0, 1) := by decide +kernel
theorem dL_value_15 : decode cL_value 15 = .ok (.ireturn, 1) := by decide +kernel
set_option maxRecDepth 20000 in
theorem ggL_sensitivity_X6_sensitivity : GoodIn wsL_sensitivity wsX6_sensitivity := goodIn_ca (goodIn_r _ [6, 7, 8, 9, 10, 11, 5, 12, 13, 14, 15, 16, 17, 18, 19, 20, 21, 22, 23, 24, 25, 26, 27, 28, 29, 30, 31, 32, 33, 34, 35, 36, 37, 38, 39, 40, 41, 42, 43, 44, 45, 46, 47, 48, 49, 50, 51, 52, 53, 54, 55, 56, 57, 58, 59, 60, 61, 62, 63, 64, 65, 66, 67, 68, 69, 70, 71, 72, 73, 74, 75, 76] (by decide +kernel) (by decide +kernel)) (goodIn_sub (fun _ h => List.mem_cons_of_mem _ (List.mem_append_right _ h)) (by decide +kernel))
set_option maxRecDepth 20000 in
theorem gL_sensitivity_X6_sensitivity : GoodIn wsL_sensitivity (wsV RL 52 RX6 yX6_sensitivity wsX6_sensitivity) := goodIn_app (goodIn_of _ (by decide +kernel)) ggL_sensitivity_X6_sensitivity
theorem dL_sensitivity_0 : decode cL_sensitivity 0 = .ok (.aload_n 3, 1) := by decide +kernel
theorem dL_sensitivity_1 : decode cL_sensitivity 1 = .ok (.iconst 0, 1) := by decide +kernel
theorem dL_sensitivity_2 : decode cL_sensitivity 2 = .ok (.aload_n 0, 1) := by decide +kernel
theorem dL_sensitivity_3 : decode cL_sensitivity 3 = .ok (.iload_n 1, 1) := by decide +kernel
theorem dL_sensitivity_4 : decode cL_sensitivity 4 = .ok (.iload_n 2, 1) := by decide +kernel
theorem dL_sensitivity_5 : decode cL_sensitivity 5 = .ok (.invokevirtual 52, 3) := by decide +kernel
theorem dL_sensitivity_8 : decode cL_sensitivity 8 = .ok (.lastore, 1) := by decide +kernel
theorem dL_sensitivity_9 : decode cL_sensitivity 9 = .ok (.goto 7, 3) := by decide +kernel
theorem dL_sensitivity_12 : decode cL_sensitivity 12 = .ok (.astore 4, 2) := by decide +kernel
theorem dL_sensitivity_14 : decode cL_sensitivity 14 = .ok (.iconst 1, 1) := by decide +kernel
theorem dL_sensitivity_15 : decode cL_sensitivity 15 = .ok (.ireturn, 1) := by decide +kernel
theorem dL_sensitivity_16 : decode cL_sensitivity 16 = .ok (.iconst 0, 1) := by decide +kernel
theorem dL_sensitivity_17 : decode cL_sensitivity 17 = .ok (.ireturn, 1) := by decide +kernel
set_option maxRecDepth 20000 in
theorem ggL_sensitivityAnew_X6_sensitivityAnew : GoodIn wsL_sensitivityAnew wsX6_sensitivityAnew := goodIn_ca (goodIn_r _ [6, 7, 8, 9, 10, 11, 12, 13, 5, 14, 15, 16, 17, 18, 19, 20, 21, 22, 23, 24, 25, 26, 27, 28, 29, 30, 31, 32, 33, 34, 35, 36, 37, 38, 39, 40, 41, 42, 43, 44, 45, 46, 47, 48, 49, 50, 51, 52, 53, 54, 55, 56, 57, 58, 59, 60, 61, 62, 63, 64, 65, 66, 67, 68, 69, 70, 71, 72, 73, 74, 75, 76, 77, 78, 79, 80, 81, 82, 83, 84, 85, 86] (by decide +kernel) (by decide +kernel)) (goodIn_sub (fun _ h => List.mem_cons_of_mem _ (List.mem_append_right _ h)) (by decide +kernel))
set_option maxRecDepth 20000 in
theorem gL_sensitivityAnew_X6_sensitivityAnew : GoodIn wsL_sensitivityAnew (wsV RL 56 RX6 yX6_sensitivityAnew wsX6_sensitivityAnew) := goodIn_app (goodIn_of _ (by decide +kernel)) ggL_sensitivityAnew_X6_sensitivityAnew
theorem dL_sensitivityAnew_0 : decode cL_sensitivityAnew 0 = .ok (.aload_n 3, 1) := by decide +kernel
theorem dL_sensitivityAnew_1 : decode cL_sensitivityAnew 1 = .ok (.iconst 0, 1) := by decide +kernel
theorem dL_sensitivityAnew_2 : decode cL_sensitivityAnew 2 = .ok (.aload_n 0, 1) := by decide +kernel
theorem dL_sensitivityAnew_3 : decode cL_sensitivityAnew 3 = .ok (.iload_n 1, 1) := by decide +kernel
theorem dL_sensitivityAnew_4 : decode cL_sensitivityAnew 4 = .ok (.iload_n 2, 1) := by decide +kernel
theorem dL_sensitivityAnew_5 : decode cL_sensitivityAnew 5 = .ok (.invokevirtual 56, 3) := by decide +kernel
theorem dL_sensitivityAnew_8 : decode cL_sensitivityAnew 8 = .ok (.lastore, 1) := by decide +kernel
theorem dL_sensitivityAnew_9 : decode cL_sensitivityAnew 9 = .ok (.goto 7, 3) := by decide +kernel
theorem dL_sensitivityAnew_12 : decode cL_sensitivityAnew 12 = .ok (.astore 4, 2) := by decide +kernel
theorem dL_sensitivityAnew_14 : decode cL_sensitivityAnew 14 = .ok (.iconst 1, 1) := by decide +kernel
theorem dL_sensitivityAnew_15 : decode cL_sensitivityAnew 15 = .ok (.ireturn, 1) := by decide +kernel
theorem dL_sensitivityAnew_16 : decode cL_sensitivityAnew 16 = .ok (.iconst 0, 1) := by decide +kernel
theorem dL_sensitivityAnew_17 : decode cL_sensitivityAnew 17 = .ok (.ireturn, 1) := by decide +kernel
set_option maxRecDepth 20000 in
theorem ggL_budget_X6_budget : GoodIn wsL_budget wsX6_budget := goodIn_ca (goodIn_ca (goodIn_r _ [7, 8, 9, 10, 11, 12, 13, 14, 6, 15, 16, 17, 18, 19, 20, 21, 22, 23, 24, 25, 26, 27, 28, 29, 30, 31, 32, 33, 34, 35, 36, 37, 38, 39, 40, 41, 42, 43, 44, 45, 46, 47, 48, 49, 50, 51, 52, 53, 54, 55, 56, 57, 58, 59, 60, 61, 62, 63, 64, 65, 66, 67, 68, 69, 70, 71, 72, 73, 74, 75, 76, 77, 78, 79, 80, 81, 82, 83, 84, 85, 86, 87, 88, 89, 90, 91, 92, 93, 94, 95, 96, 97, 98, 99, 100, 101, 102, 103, 104, 105, 106, 107, 108, 109, 110, 111, 112, 113, 114, 115, 116, 117, 118, 119, 120, 121, 122, 123, 124, 125, 126, 127, 128, 129, 130, 131, 132, 133, 134, 135, 136, 137, 138, 139, 140, 141, 142, 143, 144, 145, 146, 147, 148, 149, 150, 151] (by decide +kernel) (by decide +kernel)) (goodIn_sub (fun _ h => List.mem_cons_of_mem _ (List.mem_append_left _ (List.mem_append_right _ h))) (by decide +kernel))) (goodIn_sub (fun _ h => List.mem_cons_of_mem _ (List.mem_append_right _ h)) (by decide +kernel))
set_option maxRecDepth 20000 in
theorem gL_budget_X6_budget : GoodIn wsL_budget (wsV RL 59 RX6 yX6_budget wsX6_budget) := goodIn_app (goodIn_of _ (by decide +kernel)) ggL_budget_X6_budget
theorem dL_budget_0 : decode cL_budget 0 = .ok (.aload_n 3, 1) := by decide +kernel
theorem dL_budget_1 : decode cL_budget 1 = .ok (.iconst 0, 1) := by decide +kernel
theorem dL_budget_2 : decode cL_budget 2 = .ok (.aload_n 0, 1) := by decide +kernel
theorem dL_budget_3 : decode cL_budget 3 = .ok (.iload_n 1, 1) := by decide +kernel
theorem dL_budget_4 : decode cL_budget 4 = .ok (.iload_n 2, 1) := by decide +kernel
theorem dL_budget_5 : decode cL_budget 5 = .ok (.invokevirtual 59, 3) := by decide +kernel
theorem dL_budget_8 : decode cL_budget 8 = .ok (.lastore, 1) := by decide +kernel
theorem dL_budget_9 : decode cL_budget 9 = .ok (.goto 11, 3) := by decide +kernel
theorem dL_budget_12 : decode cL_budget 12 = .ok (.astore 4, 2) := by decide +kernel
theorem dL_budget_14 : decode cL_budget 14 = .ok (.iconst 1, 1) := by decide +kernel
theorem dL_budget_15 : decode cL_budget 15 = .ok (.ireturn, 1) := by decide +kernel
theorem dL_budget_16 : decode cL_budget 16 = .ok (.astore 4, 2) := by decide +kernel
theorem dL_budget_18 : decode cL_budget 18 = .ok (.iconst 2, 1) := by decide +kernel
theorem dL_budget_19 : decode cL_budget 19 = .ok (.ireturn, 1) := by decide +kernel
theorem dL_budget_20 : decode cL_budget 20 = .ok (.iconst 0, 1) := by decide +kernel
theorem dL_budget_21 : decode cL_budget 21 = .ok (.ireturn, 1) := by decide +kernel
set_option maxRecDepth 20000 in
theorem ggL_contribution_X6_contribution : GoodIn wsL_contribution wsX6_contribution := goodIn_ca (goodIn_r _ [6, 7, 8, 9, 10, 11, 12, 5, 13, 14, 15, 16, 17, 18, 19, 20, 21, 22, 23, 24, 25, 26, 27, 28, 29, 30, 31, 32, 33, 34, 35, 36, 37, 38, 39, 40, 41, 42, 43, 44, 45, 46, 47, 48, 49, 50, 51, 52, 53, 54, 55, 56, 57, 58, 59, 60, 61, 62, 63, 64, 65, 66, 67, 68, 69, 70, 71, 72, 73, 74, 75, 76, 77, 78, 79, 80, 81, 82, 83, 84, 85, 86, 87, 88, 89, 90, 91, 92, 93, 94, 95, 96, 97, 98, 99, 100, 101, 102, 103, 104, 105, 106, 107, 108, 109, 110, 111, 112, 113, 114] (by decide +kernel) (by decide +kernel)) (goodIn_sub (fun _ h => List.mem_cons_of_mem _ (List.mem_append_right _ h)) (by decide +kernel))
set_option maxRecDepth 20000 in
theorem gL_contribution_X6_contribution : GoodIn wsL_contribution (wsV RL 62 RX6 yX6_contribution wsX6_contribution) := goodIn_app (goodIn_of _ (by decide +kernel)) ggL_contribution_X6_contribution
theorem dL_contribution_0 : decode cL_contribution 0 = .ok (.aload 4, 2) := by decide +kernel
theorem dL_contribution_2 : decode cL_contribution 2 = .ok (.iconst 0, 1) := by decide +kernel
theorem dL_contribution_3 : decode cL_contribution 3 = .ok (.aload_n 0, 1) := by decide +kernel
theorem dL_contribution_4 : decode cL_contribution 4 = .ok (.iload_n 1, 1) := by decide +kernel
theorem dL_contribution_5 : decode cL_contribution 5 = .ok (.iload_n 2, 1) := by decide +kernel
theorem dL_contribution_6 : decode cL_contribution 6 = .ok (.iload_n 3, 1) := by decide +kernel
theorem dL_contribution_7 : decode cL_contribution 7 = .ok (.invokevirtual 62, 3) := by decide +kernel
theorem dL_contribution_10 : decode cL_contribution 10 = .ok (.lastore, 1) := by decide +kernel
theorem dL_contribution_11 : decode cL_contribution 11 = .ok (.goto 7, 3) := by decide +kernel
theorem dL_contribution_14 : decode cL_contribution 14 = .ok (.astore 5, 2) := by decide +kernel
theorem dL_contribution_16 : decode cL_contribution 16 = .ok (.iconst 1, 1) := by decide +kernel
theorem dL_contribution_17 : decode cL_contribution 17 = .ok (.ireturn, 1) := by decide +kernel
theorem dL_contribution_18 : decode cL_contribution 18 = .ok (.iconst 0, 1) := by decide +kernel
theorem dL_contribution_19 : decode cL_contribution 19 = .ok (.ireturn, 1) := by decide +kernel
set_option maxRecDepth 20000 in
theorem ggL_ranked_X6_ranked : GoodIn wsL_ranked wsX6_ranked := goodIn_ca (goodIn_r _ [6, 7, 8, 9, 10, 11, 12, 13, 5, 14, 15, 16, 17, 18, 19, 20, 21, 22, 23, 24, 25, 26, 27, 28, 29, 30, 31, 32, 33, 34, 35, 36, 37, 38, 39, 40, 41, 42, 43, 44, 45, 46, 47, 48, 49, 50, 51, 52, 53, 54, 55, 56, 57, 58, 59, 60, 61, 62, 63, 64, 65, 66, 67, 68, 69, 70, 71, 72, 73, 74, 75, 76, 77, 78, 79, 80, 81, 82, 83, 84, 85, 86, 87, 88, 89, 90, 91, 92, 93, 94, 95, 96, 97, 98, 99, 100, 101, 102, 103, 104, 105, 106, 107, 108, 109, 110, 111, 112, 113, 114, 115, 116, 117] (by decide +kernel) (by decide +kernel)) (goodIn_sub (fun _ h => List.mem_cons_of_mem _ (List.mem_append_right _ h)) (by decide +kernel))
set_option maxRecDepth 20000 in
theorem gL_ranked_X6_ranked : GoodIn wsL_ranked (wsV RL 66 RX6 yX6_ranked wsX6_ranked) := goodIn_app (goodIn_of _ (by decide +kernel)) ggL_ranked_X6_ranked
theorem dL_ranked_0 : decode cL_ranked 0 = .ok (.aload_n 3, 1) := by decide +kernel
theorem dL_ranked_1 : decode cL_ranked 1 = .ok (.iconst 0, 1) := by decide +kernel
theorem dL_ranked_2 : decode cL_ranked 2 = .ok (.aload_n 0, 1) := by decide +kernel
theorem dL_ranked_3 : decode cL_ranked 3 = .ok (.iload_n 1, 1) := by decide +kernel
theorem dL_ranked_4 : decode cL_ranked 4 = .ok (.iload_n 2, 1) := by decide +kernel
theorem dL_ranked_5 : decode cL_ranked 5 = .ok (.invokevirtual 66, 3) := by decide +kernel
theorem dL_ranked_8 : decode cL_ranked 8 = .ok (.i2l, 1) := by decide +kernel
theorem dL_ranked_9 : decode cL_ranked 9 = .ok (.lastore, 1) := by decide +kernel
theorem dL_ranked_10 : decode cL_ranked 10 = .ok (.goto 7, 3) := by decide +kernel
theorem dL_ranked_13 : decode cL_ranked 13 = .ok (.astore 4, 2) := by decide +kernel
theorem dL_ranked_15 : decode cL_ranked 15 = .ok (.iconst 1, 1) := by decide +kernel
theorem dL_ranked_16 : decode cL_ranked 16 = .ok (.ireturn, 1) := by decide +kernel
theorem dL_ranked_17 : decode cL_ranked 17 = .ok (.iconst 0, 1) := by decide +kernel
theorem dL_ranked_18 : decode cL_ranked 18 = .ok (.ireturn, 1) := by decide +kernel
set_option maxRecDepth 20000 in
theorem ggL_table_X6_table : GoodIn wsL_table wsX6_table := goodIn_ca (goodIn_ca (goodIn_r _ [7, 8, 9, 10, 11, 12, 13, 6, 14, 15, 16, 17, 18, 19, 20, 21, 22, 23, 24, 25, 26, 27, 28, 29, 30, 31, 32, 33, 34, 35, 36, 37, 38, 39, 40, 41, 42, 43, 44, 45, 46, 47, 48, 49, 50, 51, 52] (by decide +kernel) (by decide +kernel)) (goodIn_sub (fun _ h => List.mem_cons_of_mem _ (List.mem_append_left _ (List.mem_append_right _ h))) (by decide +kernel))) (goodIn_sub (fun _ h => List.mem_cons_of_mem _ (List.mem_append_right _ h)) (by decide +kernel))
set_option maxRecDepth 20000 in
theorem gL_table_X6_table : GoodIn wsL_table (wsV RL 69 RX6 yX6_table wsX6_table) := goodIn_app (goodIn_of _ (by decide +kernel)) ggL_table_X6_table
theorem dL_table_0 : decode cL_table 0 = .ok (.aload_n 3, 1) := by decide +kernel
theorem dL_table_1 : decode cL_table 1 = .ok (.iconst 0, 1) := by decide +kernel
theorem dL_table_2 : decode cL_table 2 = .ok (.aload_n 0, 1) := by decide +kernel
theorem dL_table_3 : decode cL_table 3 = .ok (.iload_n 1, 1) := by decide +kernel
theorem dL_table_4 : decode cL_table 4 = .ok (.iload_n 2, 1) := by decide +kernel
theorem dL_table_5 : decode cL_table 5 = .ok (.invokevirtual 69, 3) := by decide +kernel
theorem dL_table_8 : decode cL_table 8 = .ok (.i2l, 1) := by decide +kernel
theorem dL_table_9 : decode cL_table 9 = .ok (.lastore, 1) := by decide +kernel
theorem dL_table_10 : decode cL_table 10 = .ok (.goto 11, 3) := by decide +kernel
theorem dL_table_13 : decode cL_table 13 = .ok (.astore 4, 2) := by decide +kernel
theorem dL_table_15 : decode cL_table 15 = .ok (.iconst 1, 1) := by decide +kernel
theorem dL_table_16 : decode cL_table 16 = .ok (.ireturn, 1) := by decide +kernel
theorem dL_table_17 : decode cL_table 17 = .ok (.astore 4, 2) := by decide +kernel
theorem dL_table_19 : decode cL_table 19 = .ok (.iconst 2, 1) := by decide +kernel
theorem dL_table_20 : decode cL_table 20 = .ok (.ireturn, 1) := by decide +kernel
theorem dL_table_21 : decode cL_table 21 = .ok (.iconst 0, 1) := by decide +kernel
theorem dL_table_22 : decode cL_table 22 = .ok (.ireturn, 1) := by decide +kernel
set_option maxRecDepth 20000 in
theorem ggL_seed_X6_seed : GoodIn wsL_seed wsX6_seed := goodIn_ca (goodIn_r _ [6, 7, 8, 9, 10, 11, 5, 12, 13, 14, 15, 16, 17, 18, 19, 20, 21, 22, 23, 24] (by decide +kernel) (by decide +kernel)) (goodIn_sub (fun _ h => List.mem_cons_of_mem _ (List.mem_append_right _ h)) (by decide +kernel))
set_option maxRecDepth 20000 in
theorem gL_seed_X6_seed : GoodIn wsL_seed (wsV RL 72 RX6 yX6_seed wsX6_seed) := goodIn_app (goodIn_of _ (by decide +kernel)) ggL_seed_X6_seed
theorem dL_seed_0 : decode cL_seed 0 = .ok (.aload_n 2, 1) := by decide +kernel
theorem dL_seed_1 : decode cL_seed 1 = .ok (.iconst 0, 1) := by decide +kernel
theorem dL_seed_2 : decode cL_seed 2 = .ok (.aload_n 0, 1) := by decide +kernel
theorem dL_seed_3 : decode cL_seed 3 = .ok (.iload_n 1, 1) := by decide +kernel
theorem dL_seed_4 : decode cL_seed 4 = .ok (.invokevirtual 72, 3) := by decide +kernel
theorem dL_seed_7 : decode cL_seed 7 = .ok (.i2l, 1) := by decide +kernel
theorem dL_seed_8 : decode cL_seed 8 = .ok (.lastore, 1) := by decide +kernel
theorem dL_seed_9 : decode cL_seed 9 = .ok (.goto 6, 3) := by decide +kernel
theorem dL_seed_12 : decode cL_seed 12 = .ok (.astore_n 3, 1) := by decide +kernel
theorem dL_seed_13 : decode cL_seed 13 = .ok (.iconst 1, 1) := by decide +kernel
theorem dL_seed_14 : decode cL_seed 14 = .ok (.ireturn, 1) := by decide +kernel
theorem dL_seed_15 : decode cL_seed 15 = .ok (.iconst 0, 1) := by decide +kernel
theorem dL_seed_16 : decode cL_seed 16 = .ok (.ireturn, 1) := by decide +kernel
set_option maxRecDepth 20000 in
theorem ggL_draw_X6_draw : GoodIn wsL_draw wsX6_draw := goodIn_ca (goodIn_ca (goodIn_r _ [7, 8, 9, 10, 11, 12, 13, 14, 15, 16, 17, 6, 18, 19, 20, 21, 22, 23, 24, 25, 26, 27, 28, 29, 30, 31, 32, 33, 34, 35, 36, 37, 38, 39, 40, 41, 42, 43, 44, 45, 46, 47, 48, 49, 50, 51, 52, 53, 54, 55, 56, 57, 58, 59, 60, 61, 62, 63, 64, 65, 66, 67, 68, 69, 70, 71, 72, 73, 74, 75, 76, 77, 78, 79, 80, 81, 82, 83, 84, 85, 86, 87, 88, 89, 90, 91, 92, 93, 94, 95, 96, 97, 98, 99, 100, 101, 102, 103, 104, 105, 106, 107, 108, 109, 110, 111, 112, 113, 114, 115, 116, 117, 118, 119, 120, 121, 122, 123, 124, 125, 126, 127, 128, 129, 130, 131, 132, 133, 134, 135, 136, 137, 138, 139, 140, 141, 142, 143, 144, 145, 146, 147, 148, 149, 150, 151, 152, 153, 154, 155, 156, 157, 158, 159, 160, 161, 162, 163, 164, 165, 166, 167, 168, 169, 170, 171, 172] (by decide +kernel) (by decide +kernel)) (goodIn_sub (fun _ h => List.mem_cons_of_mem _ (List.mem_append_left _ (List.mem_append_right _ h))) (by decide +kernel))) (goodIn_sub (fun _ h => List.mem_cons_of_mem _ (List.mem_append_right _ h)) (by decide +kernel))
set_option maxRecDepth 20000 in
theorem gL_draw_X6_draw : GoodIn wsL_draw (wsV RL 75 RX6 yX6_draw wsX6_draw) := goodIn_app (goodIn_of _ (by decide +kernel)) ggL_draw_X6_draw
theorem dL_draw_0 : decode cL_draw 0 = .ok (.aload_n 3, 1) := by decide +kernel
theorem dL_draw_1 : decode cL_draw 1 = .ok (.iconst 0, 1) := by decide +kernel
theorem dL_draw_2 : decode cL_draw 2 = .ok (.aload_n 0, 1) := by decide +kernel
theorem dL_draw_3 : decode cL_draw 3 = .ok (.iload_n 1, 1) := by decide +kernel
theorem dL_draw_4 : decode cL_draw 4 = .ok (.iload_n 2, 1) := by decide +kernel
theorem dL_draw_5 : decode cL_draw 5 = .ok (.invokevirtual 75, 3) := by decide +kernel
theorem dL_draw_8 : decode cL_draw 8 = .ok (.i2l, 1) := by decide +kernel
theorem dL_draw_9 : decode cL_draw 9 = .ok (.lastore, 1) := by decide +kernel
theorem dL_draw_10 : decode cL_draw 10 = .ok (.goto 11, 3) := by decide +kernel
theorem dL_draw_13 : decode cL_draw 13 = .ok (.astore 4, 2) := by decide +kernel
theorem dL_draw_15 : decode cL_draw 15 = .ok (.iconst 1, 1) := by decide +kernel
theorem dL_draw_16 : decode cL_draw 16 = .ok (.ireturn, 1) := by decide +kernel
theorem dL_draw_17 : decode cL_draw 17 = .ok (.astore 4, 2) := by decide +kernel
theorem dL_draw_19 : decode cL_draw 19 = .ok (.iconst 2, 1) := by decide +kernel
theorem dL_draw_20 : decode cL_draw 20 = .ok (.ireturn, 1) := by decide +kernel
theorem dL_draw_21 : decode cL_draw 21 = .ok (.iconst 0, 1) := by decide +kernel
theorem dL_draw_22 : decode cL_draw 22 = .ok (.ireturn, 1) := by decide +kernel
