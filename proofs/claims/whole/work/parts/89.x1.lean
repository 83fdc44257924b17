theorem dL_load_0 : decode cL_load 0 = .ok (.aload_n 2, 1) := by decide +kernel
theorem dL_load_1 : decode cL_load 1 = .ok (.iconst 0, 1) := by decide +kernel
theorem dL_load_2 : decode cL_load 2 = .ok (.aload_n 0, 1) := by decide +kernel
theorem dL_load_3 : decode cL_load 3 = .ok (.iload_n 1, 1) := by decide +kernel
theorem dL_load_4 : decode cL_load 4 = .ok (.invokevirtual 7, 3) := by decide +kernel
theorem dL_load_7 : decode cL_load 7 = .ok (.i2l, 1) := by decide +kernel
theorem dL_load_8 : decode cL_load 8 = .ok (.lastore, 1) := by decide +kernel
theorem dL_load_9 : decode cL_load 9 = .ok (.goto 6, 3) := by decide +kernel
theorem dL_load_12 : decode cL_load 12 = .ok (.astore_n 3, 1) := by decide +kernel
theorem dL_load_13 : decode cL_load 13 = .ok (.iconst 1, 1) := by decide +kernel
theorem dL_load_14 : decode cL_load 14 = .ok (.ireturn, 1) := by decide +kernel
theorem dL_load_15 : decode cL_load 15 = .ok (.iconst 0, 1) := by decide +kernel
theorem dL_load_16 : decode cL_load 16 = .ok (.ireturn, 1) := by decide +kernel
set_option maxRecDepth 20000 in
theorem ggL_solutions_X10_solutions : GoodIn wsL_solutions wsX10_solutions := goodIn_ca (goodIn_r _ [6, 7, 8, 9, 10, 11, 12, 13, 14, 15, 16, 17, 18, 19, 20, 21, 22, 23, 24, 25, 26, 27, 28, 29, 30, 31, 32, 33, 34, 35, 36, 37, 38, 39] (by decide +kernel) (by decide +kernel)) (goodIn_sub (fun _ h => List.mem_cons_of_mem _ (List.mem_append_right _ h)) (by decide +kernel))
set_option maxRecDepth 20000 in
theorem gL_solutions_X10_solutions : GoodIn wsL_solutions (wsV RL 15 RX10 yX10_solutions wsX10_solutions) := goodIn_app (goodIn_of _ (by decide +kernel)) ggL_solutions_X10_solutions
theorem dL_solutions_0 : decode cL_solutions 0 = .ok (.aload_n 2, 1) := by decide +kernel
theorem dL_solutions_1 : decode cL_solutions 1 = .ok (.iconst 0, 1) := by decide +kernel
theorem dL_solutions_2 : decode cL_solutions 2 = .ok (.aload_n 0, 1) := by decide +kernel
theorem dL_solutions_3 : decode cL_solutions 3 = .ok (.iload_n 1, 1) := by decide +kernel
theorem dL_solutions_4 : decode cL_solutions 4 = .ok (.invokevirtual 15, 3) := by decide +kernel
theorem dL_solutions_7 : decode cL_solutions 7 = .ok (.i2l, 1) := by decide +kernel
theorem dL_solutions_8 : decode cL_solutions 8 = .ok (.lastore, 1) := by decide +kernel
theorem dL_solutions_9 : decode cL_solutions 9 = .ok (.goto 6, 3) := by decide +kernel
theorem dL_solutions_12 : decode cL_solutions 12 = .ok (.astore_n 3, 1) := by decide +kernel
theorem dL_solutions_13 : decode cL_solutions 13 = .ok (.iconst 1, 1) := by decide +kernel
theorem dL_solutions_14 : decode cL_solutions 14 = .ok (.ireturn, 1) := by decide +kernel
theorem dL_solutions_15 : decode cL_solutions 15 = .ok (.iconst 0, 1) := by decide +kernel
theorem dL_solutions_16 : decode cL_solutions 16 = .ok (.ireturn, 1) := by decide +kernel
set_option maxRecDepth 20000 in
theorem ggL_colour_X10_colour : GoodIn wsL_colour wsX10_colour := goodIn_ca (goodIn_r _ [6, 7, 8, 9, 10, 5, 11, 12, 13, 14, 15, 16, 17, 18, 19, 20, 21, 22, 23, 24, 25, 26, 27, 28, 29, 30, 31, 32, 33, 34, 35, 36, 37] (by decide +kernel) (by decide +kernel)) (goodIn_sub (fun _ h => List.mem_cons_of_mem _ (List.mem_append_right _ h)) (by decide +kernel))
set_option maxRecDepth 20000 in
theorem gL_colour_X10_colour : GoodIn wsL_colour (wsV RL 20 RX10 yX10_colour wsX10_colour) := goodIn_app (goodIn_of _ (by decide +kernel)) ggL_colour_X10_colour
theorem dL_colour_0 : decode cL_colour 0 = .ok (.aload_n 2, 1) := by decide +kernel
theorem dL_colour_1 : decode cL_colour 1 = .ok (.iconst 0, 1) := by decide +kernel
theorem dL_colour_2 : decode cL_colour 2 = .ok (.aload_n 0, 1) := by decide +kernel
theorem dL_colour_3 : decode cL_colour 3 = .ok (.iload_n 1, 1) := by decide +kernel
theorem dL_colour_4 : decode cL_colour 4 = .ok (.invokevirtual 20, 3) := by decide +kernel
theorem dL_colour_7 : decode cL_colour 7 = .ok (.i2l, 1) := by decide +kernel
theorem dL_colour_8 : decode cL_colour 8 = .ok (.lastore, 1) := by decide +kernel
theorem dL_colour_9 : decode cL_colour 9 = .ok (.goto 6, 3) := by decide +kernel
theorem dL_colour_12 : decode cL_colour 12 = .ok (.astore_n 3, 1) := by decide +kernel
theorem dL_colour_13 : decode cL_colour 13 = .ok (.iconst 1, 1) := by decide +kernel
theorem dL_colour_14 : decode cL_colour 14 = .ok (.ireturn, 1) := by decide +kernel
theorem dL_colour_15 : decode cL_colour 15 = .ok (.iconst 0, 1) := by decide +kernel
theorem dL_colour_16 : decode cL_colour 16 = .ok (.ireturn, 1) := by decide +kernel
set_option maxRecDepth 20000 in
theorem ggL_isFixed_X10_isFixed : GoodIn wsL_isFixed wsX10_isFixed := goodIn_ca (goodIn_r _ [6, 7, 8, 9, 10, 5, 11, 12, 13, 14, 15, 16, 17, 18, 19, 20, 21, 22, 23, 24, 25, 26, 27, 28, 29, 30, 31, 32, 33, 34, 35, 36, 37] (by decide +kernel) (by decide +kernel)) (goodIn_sub (fun _ h => List.mem_cons_of_mem _ (List.mem_append_right _ h)) (by decide +kernel))
set_option maxRecDepth 20000 in
theorem gL_isFixed_X10_isFixed : GoodIn wsL_isFixed (wsV RL 23 RX10 yX10_isFixed wsX10_isFixed) := goodIn_app (goodIn_of _ (by decide +kernel)) ggL_isFixed_X10_isFixed
theorem dL_isFixed_0 : decode cL_isFixed 0 = .ok (.aload_n 2, 1) := by decide +kernel
theorem dL_isFixed_1 : decode cL_isFixed 1 = .ok (.iconst 0, 1) := by decide +kernel
theorem dL_isFixed_2 : decode cL_isFixed 2 = .ok (.aload_n 0, 1) := by decide +kernel
theorem dL_isFixed_3 : decode cL_isFixed 3 = .ok (.iload_n 1, 1) := by decide +kernel
theorem dL_isFixed_4 : decode cL_isFixed 4 = .ok (.invokevirtual 23, 3) := by decide +kernel
theorem dL_isFixed_7 : decode cL_isFixed 7 = .ok (.ifCond .eq 7, 3) := by decide +kernel
theorem dL_isFixed_10 : decode cL_isFixed 10 = .ok (.lconst 1, 1) := by decide +kernel
theorem dL_isFixed_11 : decode cL_isFixed 11 = .ok (.goto 4, 3) := by decide +kernel
theorem dL_isFixed_14 : decode cL_isFixed 14 = .ok (.lconst 0, 1) := by decide +kernel
theorem dL_isFixed_15 : decode cL_isFixed 15 = .ok (.lastore, 1) := by decide +kernel
theorem dL_isFixed_16 : decode cL_isFixed 16 = .ok (.goto 6, 3) := by decide +kernel
theorem dL_isFixed_19 : decode cL_isFixed 19 = .ok (.astore_n 3, 1) := by decide +kernel
theorem dL_isFixed_20 : decode cL_isFixed 20 = .ok (.iconst 1, 1) := by decide +kernel
theorem dL_isFixed_21 : decode cL_isFixed 21 = .ok (.ireturn, 1) := by decide +kernel
theorem dL_isFixed_22 : decode cL_isFixed 22 = .ok (.iconst 0, 1) := by decide +kernel
theorem dL_isFixed_23 : decode cL_isFixed 23 = .ok (.ireturn, 1) := by decide +kernel
set_option maxRecDepth 20000 in
theorem ggL_count_X10_count : GoodIn wsL_count wsX10_count := goodIn_ca (goodIn_r _ [6, 7, 8, 9, 5, 10, 11, 12, 13, 14, 15, 16, 17, 18, 19, 20, 21, 22, 23, 24, 25, 26, 27, 28, 29, 30, 31, 32, 33, 34, 35, 36, 37, 38, 39, 40, 41, 42, 43, 44, 45, 46, 47, 48, 49, 50, 51, 52, 53] (by decide +kernel) (by decide +kernel)) (goodIn_sub (fun _ h => List.mem_cons_of_mem _ (List.mem_append_right _ h)) (by decide +kernel))
set_option maxRecDepth 20000 in
theorem gL_count_X10_count : GoodIn wsL_count (wsV RL 27 RX10 yX10_count wsX10_count) := goodIn_app (goodIn_of _ (by decide +kernel)) ggL_count_X10_count
theorem dL_count_0 : decode cL_count 0 = .ok (.aload_n 2, 1) := by decide +kernel
theorem dL_count_1 : decode cL_count 1 = .ok (.iconst 0, 1) := by decide +kernel
theorem dL_count_2 : decode cL_count 2 = .ok (.aload_n 0, 1) := by decide +kernel
theorem dL_count_3 : decode cL_count 3 = .ok (.iload_n 1, 1) := by decide +kernel
theorem dL_count_4 : decode cL_count 4 = .ok (.invokevirtual 27, 3) := by decide +kernel
theorem dL_count_7 : decode cL_count 7 = .ok (.i2l, 1) := by decide +kernel
theorem dL_count_8 : decode cL_count 8 = .ok (.lastore, 1) := by decide +kernel
theorem dL_count_9 : decode cL_count 9 = .ok (.goto 6, 3) := by decide +kernel
theorem dL_count_12 : decode cL_count 12 = .ok (.astore_n 3, 1) := by decide +kernel
theorem dL_count_13 : decode cL_count 13 = .ok (.iconst 1, 1) := by decide +kernel
theorem dL_count_14 : decode cL_count 14 = .ok (.ireturn, 1) := by decide +kernel
theorem dL_count_15 : decode cL_count 15 = .ok (.iconst 0, 1) := by decide +kernel
theorem dL_count_16 : decode cL_count 16 = .ok (.ireturn, 1) := by decide +kernel
set_option maxRecDepth 20000 in
theorem ggL_conflict_X10_conflict : GoodIn wsL_conflict wsX10_conflict := goodIn_ca (goodIn_ca (goodIn_r _ [7, 8, 9, 10, 11, 12, 13, 14, 15, 16, 17, 18, 19, 20, 21, 22, 23, 24, 25, 26, 27, 28, 29, 30, 31, 32, 33, 34, 35, 36, 37, 38, 39, 40, 41, 42, 43, 44, 45, 46, 47, 48, 49, 50, 51, 52, 53, 54, 55, 56, 57, 58, 59, 60, 61, 62, 63, 64, 65, 66, 67, 68, 69, 70, 71, 72, 73, 74, 75, 76, 77, 78, 79, 80, 81] (by decide +kernel) (by decide +kernel)) (goodIn_sub (fun _ h => List.mem_cons_of_mem _ (List.mem_append_left _ (List.mem_append_right _ h))) (by decide +kernel))) (goodIn_sub (fun _ h => List.mem_cons_of_mem _ (List.mem_append_right _ h)) (by decide +kernel))
set_option maxRecDepth 20000 in
theorem gL_conflict_X10_conflict : GoodIn wsL_conflict (wsV RL 30 RX10 yX10_conflict wsX10_conflict) := goodIn_app (goodIn_of _ (by decide +kernel)) ggL_conflict_X10_conflict
theorem dL_conflict_0 : decode cL_conflict 0 = .ok (.aload_n 3, 1) := by decide +kernel
theorem dL_conflict_1 : decode cL_conflict 1 = .ok (.iconst 0, 1) := by decide +kernel
theorem dL_conflict_2 : decode cL_conflict 2 = .ok (.aload_n 0, 1) := by decide +kernel
theorem dL_conflict_3 : decode cL_conflict 3 = .ok (.iload_n 1, 1) := by decide +kernel
theorem dL_conflict_4 : decode cL_conflict 4 = .ok (.iload_n 2, 1) := by decide +kernel
theorem dL_conflict_5 : decode cL_conflict 5 = .ok (.invokevirtual 30, 3) := by decide +kernel
theorem dL_conflict_8 : decode cL_conflict 8 = .ok (.i2l, 1) := by decide +kernel
theorem dL_conflict_9 : decode cL_conflict 9 = .ok (.lastore, 1) := by decide +kernel
theorem dL_conflict_10 : decode cL_conflict 10 = .ok (.goto 11, 3) := by decide +kernel
theorem dL_conflict_13 : decode cL_conflict 13 = .ok (.astore 4, 2) := by decide +kernel
theorem dL_conflict_15 : decode cL_conflict 15 = .ok (.iconst 1, 1) := by decide +kernel
theorem dL_conflict_16 : decode cL_conflict 16 = .ok (.ireturn, 1) := by decide +kernel
theorem dL_conflict_17 : decode cL_conflict 17 = .ok (.astore 4, 2) := by decide +kernel
theorem dL_conflict_19 : decode cL_conflict 19 = .ok (.iconst 2, 1) := by decide +kernel
theorem dL_conflict_20 : decode cL_conflict 20 = .ok (.ireturn, 1) := by decide +kernel
theorem dL_conflict_21 : decode cL_conflict 21 = .ok (.iconst 0, 1) := by decide +kernel
theorem dL_conflict_22 : decode cL_conflict 22 = .ok (.ireturn, 1) := by decide +kernel
set_option maxRecDepth 20000 in
theorem ggL_conflictsOf_X10_conflictsOf : GoodIn wsL_conflictsOf wsX10_conflictsOf := goodIn_ca (goodIn_r _ [6, 7, 8, 9, 10, 11, 5, 12, 13, 14, 15, 16, 17, 18, 19, 20, 21, 22, 23, 24, 25, 26, 27, 28, 29, 30, 31, 32, 33, 34, 35, 36, 37, 38, 39, 40, 41, 42, 43, 44, 45, 46, 47, 48, 49, 50, 51, 52, 53, 54, 55] (by decide +kernel) (by decide +kernel)) (goodIn_sub (fun _ h => List.mem_cons_of_mem _ (List.mem_append_right _ h)) (by decide +kernel))
set_option maxRecDepth 20000 in
theorem gL_conflictsOf_X10_conflictsOf : GoodIn wsL_conflictsOf (wsV RL 36 RX10 yX10_conflictsOf wsX10_conflictsOf) := goodIn_app (goodIn_of _ (by decide +kernel)) ggL_conflictsOf_X10_conflictsOf
theorem dL_conflictsOf_0 : decode cL_conflictsOf 0 = .ok (.aload_n 2, 1) := by decide +kernel
theorem dL_conflictsOf_1 : decode cL_conflictsOf 1 = .ok (.iconst 0, 1) := by decide +kernel
theorem dL_conflictsOf_2 : decode cL_conflictsOf 2 = .ok (.aload_n 0, 1) := by decide +kernel
theorem dL_conflictsOf_3 : decode cL_conflictsOf 3 = .ok (.iload_n 1, 1) := by decide +kernel
theorem dL_conflictsOf_4 : decode cL_conflictsOf 4 = .ok (.invokevirtual 36, 3) := by decide +kernel
theorem dL_conflictsOf_7 : decode cL_conflictsOf 7 = .ok (.i2l, 1) := by decide +kernel
theorem dL_conflictsOf_8 : decode cL_conflictsOf 8 = .ok (.lastore, 1) := by decide +kernel
theorem dL_conflictsOf_9 : decode cL_conflictsOf 9 = .ok (.goto 6, 3) := by decide +kernel
theorem dL_conflictsOf_12 : decode cL_conflictsOf 12 = .ok (.astore_n 3, 1) := by decide +kernel
theorem dL_conflictsOf_13 : decode cL_conflictsOf 13 = .ok (.iconst 1, 1) := by decide +kernel
theorem dL_conflictsOf_14 : decode cL_conflictsOf 14 = .ok (.ireturn, 1) := by decide +kernel
theorem dL_conflictsOf_15 : decode cL_conflictsOf 15 = .ok (.iconst 0, 1) := by decide +kernel
theorem dL_conflictsOf_16 : decode cL_conflictsOf 16 = .ok (.ireturn, 1) := by decide +kernel
set_option maxRecDepth 20000 in
theorem ggL_allowed_X10_allowed : GoodIn wsL_allowed wsX10_allowed := goodIn_ca (goodIn_r _ [6, 7, 8, 9, 10, 11, 12, 13, 5, 14, 15, 16, 17, 18, 19, 20, 21, 22, 23, 24, 25, 26, 27, 28, 29, 30, 31, 32, 33, 34, 35, 36, 37, 38, 39, 40, 41, 42, 43, 44, 45, 46, 47, 48, 49, 50, 51, 52, 53, 54, 55, 56, 57, 58, 59, 60, 61, 62] (by decide +kernel) (by decide +kernel)) (goodIn_sub (fun _ h => List.mem_cons_of_mem _ (List.mem_append_right _ h)) (by decide +kernel))
set_option maxRecDepth 20000 in
theorem gL_allowed_X10_allowed : GoodIn wsL_allowed (wsV RL 39 RX10 yX10_allowed wsX10_allowed) := goodIn_app (goodIn_of _ (by decide +kernel)) ggL_allowed_X10_allowed
theorem dL_allowed_0 : decode cL_allowed 0 = .ok (.aload_n 2, 1) := by decide +kernel
theorem dL_allowed_1 : decode cL_allowed 1 = .ok (.iconst 0, 1) := by decide +kernel
theorem dL_allowed_2 : decode cL_allowed 2 = .ok (.aload_n 0, 1) := by decide +kernel
theorem dL_allowed_3 : decode cL_allowed 3 = .ok (.iload_n 1, 1) := by decide +kernel
theorem dL_allowed_4 : decode cL_allowed 4 = .ok (.invokevirtual 39, 3) := by decide +kernel
theorem dL_allowed_7 : decode cL_allowed 7 = .ok (.i2l, 1) := by decide +kernel
theorem dL_allowed_8 : decode cL_allowed 8 = .ok (.lastore, 1) := by decide +kernel
theorem dL_allowed_9 : decode cL_allowed 9 = .ok (.goto 6, 3) := by decide +kernel
theorem dL_allowed_12 : decode cL_allowed 12 = .ok (.astore_n 3, 1) := by decide +kernel
theorem dL_allowed_13 : decode cL_allowed 13 = .ok (.iconst 1, 1) := by decide +kernel
theorem dL_allowed_14 : decode cL_allowed 14 = .ok (.ireturn, 1) := by decide +kernel
theorem dL_allowed_15 : decode cL_allowed 15 = .ok (.iconst 0, 1) := by decide +kernel
theorem dL_allowed_16 : decode cL_allowed 16 = .ok (.ireturn, 1) := by decide +kernel
set_option maxRecDepth 20000 in
theorem ggL_canExtend_X10_canExtend : GoodIn wsL_canExtend wsX10_canExtend := goodIn_ca (goodIn_ca (goodIn_r _ [7, 8, 9, 10, 11, 12, 13, 14, 15, 6, 16, 17, 18, 19, 20, 21, 22, 23, 24, 25, 26, 27, 28, 29, 30, 31, 32, 33, 34, 35, 36, 37, 38, 39, 40, 41, 42, 43, 44, 45, 46, 47, 48, 49, 50, 51, 52, 53, 54, 55, 56, 57, 58, 59, 60, 61, 62, 63, 64, 65, 66, 67, 68, 69, 70, 71, 72, 73, 74, 75, 76, 77, 78, 79, 80, 81, 82, 83, 84, 85, 86, 87, 88, 89, 90, 91, 92, 93, 94, 95, 96, 97, 98, 99, 100, 101, 102, 103, 104, 105, 106, 107, 108, 109, 110, 111, 112, 113, 114, 115, 116, 117] (by decide +kernel) (by decide +kernel)) (goodIn_sub (fun _ h => List.mem_cons_of_mem _ (List.mem_append_left _ (List.mem_append_right _ h))) (by decide +kernel))) (goodIn_sub (fun _ h => List.mem_cons_of_mem _ (List.mem_append_right _ h)) (by decide +kernel))
set_option maxRecDepth 20000 in
theorem gL_canExtend_X10_canExtend : GoodIn wsL_canExtend (wsV RL 42 RX10 yX10_canExtend wsX10_canExtend) := goodIn_app (goodIn_of _ (by decide +kernel)) ggL_canExtend_X10_canExtend
theorem dL_canExtend_0 : decode cL_canExtend 0 = .ok (.aload_n 3, 1) := by decide +kernel
theorem dL_canExtend_1 : decode cL_canExtend 1 = .ok (.iconst 0, 1) := by decide +kernel
theorem dL_canExtend_2 : decode cL_canExtend 2 = .ok (.aload_n 0, 1) := by decide +kernel
theorem dL_canExtend_3 : decode cL_canExtend 3 = .ok (.iload_n 1, 1) := by decide +kernel
theorem dL_canExtend_4 : decode cL_canExtend 4 = .ok (.iload_n 2, 1) := by decide +kernel
theorem dL_canExtend_5 : decode cL_canExtend 5 = .ok (.invokevirtual 42, 3) := by decide +kernel
theorem dL_canExtend_8 : decode cL_canExtend 8 = .ok (.i2l, 1) := by decide +kernel
theorem dL_canExtend_9 : decode cL_canExtend 9 = .ok (.lastore, 1) := by decide +kernel
theorem dL_canExtend_10 : decode cL_canExtend 10 = .ok (.goto 11, 3) := by decide +kernel
theorem dL_canExtend_13 : decode cL_canExtend 13 = .ok (.astore 4, 2) := by decide +kernel
theorem dL_canExtend_15 : decode cL_canExtend 15 = .ok (.iconst 1, 1) := by decide +kernel
theorem dL_canExtend_16 : decode cL_canExtend 16 = .ok (.ireturn, 1) := by decide +kernel
theorem dL_canExtend_17 : decode cL_canExtend 17 = .ok (.astore 4, 2) := by decide +kernel
theorem dL_canExtend_19 : decode cL_canExtend 19 = .ok (.iconst 2, 1) := by decide +kernel
theorem dL_canExtend_20 : decode cL_canExtend 20 = .ok (.ireturn, 1) := by decide +kernel
theorem dL_canExtend_21 : decode cL_canExtend 21 = .ok (.iconst 0, 1) := by decide +kernel
theorem dL_canExtend_22 : decode cL_canExtend 22 = .ok (.ireturn, 1) := by decide +kernel
set_option maxRecDepth 20000 in
theorem ggL_longest_X10_longest : GoodIn wsL_longest wsX10_longest := goodIn_ca (goodIn_r _ [6, 7, 8, 9, 10, 11, 12, 13, 14, 5, 15, 16, 17, 18, 19, 20, 21, 22, 23, 24, 25, 26, 27, 28, 29, 30, 31, 32, 33, 34, 35, 36, 37, 38, 39, 40, 41, 42, 43, 44, 45, 46, 47, 48, 49, 50, 51, 52, 53, 54, 55, 56, 57, 58, 59, 60, 61, 62, 63, 64, 65, 66, 67, 68, 69, 70, 71, 72, 73, 74, 75, 76, 77, 78, 79, 80, 81, 82, 83, 84, 85, 86, 87, 88, 89, 90, 91, 92, 93, 94, 95, 96, 97, 98, 99, 100, 101, 102, 103, 104, 105, 106, 107, 108, 109, 110, 111, 112, 113, 114] (by decide +kernel) (by decide +kernel)) (goodIn_sub (fun _ h => List.mem_cons_of_mem _ (List.mem_append_right _ h)) (by decide +kernel))
set_option maxRecDepth 20000 in
theorem gL_longest_X10_longest : GoodIn wsL_longest (wsV RL 45 RX10 yX10_longest wsX10_longest) := goodIn_app (goodIn_of _ (by decide +kernel)) ggL_longest_X10_longest
theorem dL_longest_0 : decode cL_longest 0 = .ok (.aload_n 2, 1) := by decide +kernel
theorem dL_longest_1 : decode cL_longest 1 = .ok (.iconst 0, 1) := by decide +kernel
theorem dL_longest_2 : decode cL_longest 2 = .ok (.aload_n 0, 1) := by decide +kernel
theorem dL_longest_3 : decode cL_longest 3 = .ok (.iload_n 1, 1) := by decide +kernel
theorem dL_longest_4 : decode cL_longest 4 = .ok (.invokevirtual 45, 3) := by decide +kernel
theorem dL_longest_7 : decode cL_longest 7 = .ok (.i2l, 1) := by decide +kernel
theorem dL_longest_8 : decode cL_longest 8 = .ok (.lastore, 1) := by decide +kernel
theorem dL_longest_9 : decode cL_longest 9 = .ok (.goto 6, 3) := by decide +kernel
theorem dL_longest_12 : decode cL_longest 12 = .ok (.astore_n 3, 1) := by decide +kernel
theorem dL_longest_13 : decode cL_longest 13 = .ok (.iconst 1, 1) := by decide +kernel
theorem dL_longest_14 : decode cL_longest 14 = .ok (.ireturn, 1) := by decide +kernel
theorem dL_longest_15 : decode cL_longest 15 = .ok (.iconst 0, 1) := by decide +kernel
theorem dL_longest_16 : decode cL_longest 16 = .ok (.ireturn, 1) := by decide +kernel
set_option maxRecDepth 20000 in
theorem ggL_setColour_X10_setColour : GoodIn wsL_setColour wsX10_setColour := goodIn_ca (goodIn_ca (goodIn_r _ [7, 8, 9, 10, 11, 12, 13, 14, 15, 6, 16, 17, 18, 19, 20, 21, 22, 23, 24, 25, 26, 27, 28, 29, 30, 31, 32, 33, 34, 35, 36, 37, 38, 39, 40, 41, 42, 43, 44, 45, 46, 47, 48, 49, 50, 51, 52, 53, 54, 55, 56, 57, 58, 59, 60, 61, 62, 63, 64, 65, 66, 67, 68, 69, 70, 71, 72, 73, 74, 75, 76, 77, 78, 79, 80, 81, 82, 83, 84, 85] (by decide +kernel) (by decide +kernel)) (goodIn_sub (fun _ h => List.mem_cons_of_mem _ (List.mem_append_left _ (List.mem_append_right _ h))) (by decide +kernel))) (goodIn_sub (fun _ h => List.mem_cons_of_mem _ (List.mem_append_right _ h)) (by decide +kernel))
set_option maxRecDepth 20000 in
theorem gL_setColour_X10_setColour : GoodIn wsL_setColour (wsV RL 48 RX10 yX10_setColour wsX10_setColour) := goodIn_app (goodIn_of _ (by decide +kernel)) ggL_setColour_X10_setColour
theorem dL_setColour_0 : decode cL_setColour 0 = .ok (.aload_n 3, 1) := by decide +kernel
theorem dL_setColour_1 : decode cL_setColour 1 = .ok (.iconst 0, 1) := by decide +kernel
theorem dL_setColour_2 : decode cL_setColour 2 = .ok (.aload_n 0, 1) := by decide +kernel
theorem dL_setColour_3 : decode cL_setColour 3 = .ok (.iload_n 1, 1) := by decide +kernel
theorem dL_setColour_4 : decode cL_setColour 4 = .ok (.iload_n 2, 1) := by decide +kernel
theorem dL_setColour_5 : decode cL_setColour 5 = .ok (.invokevirtual 48, 3) := by decide +kernel
theorem dL_setColour_8 : decode cL_setColour 8 = .ok (.i2l, 1) := by decide +kernel
theorem dL_setColour_9 : decode cL_setColour 9 = .ok (.lastore, 1) := by decide +kernel
theorem dL_setColour_10 : decode cL_setColour 10 = .ok (.goto 11, 3) := by decide +kernel
theorem dL_setColour_13 : decode cL_setColour 13 = .ok (.astore 4, 2) := by decide +kernel
theorem dL_setColour_15 : decode cL_setColour 15 = .ok (.iconst 1, 1) := by decide +kernel
theorem dL_setColour_16 : decode cL_setColour 16 = .ok (.ireturn, 1) := by decide +kernel
theorem dL_setColour_17 : decode cL_setColour 17 = .ok (.astore 4, 2) := by decide +kernel
theorem dL_setColour_19 : decode cL_setColour 19 = .ok (.iconst 2, 1) := by decide +kernel
theorem dL_setColour_20 : decode cL_setColour 20 = .ok (.ireturn, 1) := by decide +kernel
theorem dL_setColour_21 : decode cL_setColour 21 = .ok (.iconst 0, 1) := by decide +kernel
theorem dL_setColour_22 : decode cL_setColour 22 = .ok (.ireturn, 1) := by decide +kernel
set_option maxRecDepth 20000 in
theorem ggL_setFixed_X10_setFixed : GoodIn wsL_setFixed wsX10_setFixed := goodIn_ca (goodIn_ca (goodIn_r _ [7, 8, 9, 10, 11, 12, 13, 14, 15, 6, 16, 17, 18, 19, 20, 21, 22, 23, 24, 25, 26, 27, 28, 29, 30, 31, 32, 33, 34, 35, 36, 37, 38, 39, 40, 41, 42, 43, 44, 45, 46, 47, 48, 49, 50, 51, 52, 53, 54, 55, 56, 57, 58, 59, 60, 61, 62, 63, 64, 65, 66, 67, 68, 69, 70, 71, 72, 73, 74, 75, 76] (by decide +kernel) (by decide +kernel)) (goodIn_sub (fun _ h => List.mem_cons_of_mem _ (List.mem_append_left _ (List.mem_append_right _ h))) (by decide +kernel))) (goodIn_sub (fun _ h => List.mem_cons_of_mem _ (List.mem_append_right _ h)) (by decide +kernel))
set_option maxRecDepth 20000 in
theorem gL_setFixed_X10_setFixed : GoodIn wsL_setFixed (wsV RL 53 RX10 yX10_setFixed wsX10_setFixed) := goodIn_app (goodIn_of _ (by decide +kernel)) ggL_setFixed_X10_setFixed
theorem dL_setFixed_0 : decode cL_setFixed 0 = .ok (.aload_n 3, 1) := by decide +kernel
theorem dL_setFixed_1 : decode cL_setFixed 1 = .ok (.iconst 0, 1) := by decide +kernel
theorem dL_setFixed_2 : decode cL_setFixed 2 = .ok (.aload_n 0, 1) := by decide +kernel
theorem dL_setFixed_3 : decode cL_setFixed 3 = .ok (.iload_n 1, 1) := by decide +kernel
theorem dL_setFixed_4 : decode cL_setFixed 4 = .ok (.iload_n 2, 1) := by decide +kernel
theorem dL_setFixed_5 : decode cL_setFixed 5 = .ok (.invokevirtual 53, 3) := by decide +kernel
theorem dL_setFixed_8 : decode cL_setFixed 8 = .ok (.ifCond .eq 7, 3) := by decide +kernel
theorem dL_setFixed_11 : decode cL_setFixed 11 = .ok (.lconst 1, 1) := by decide +kernel
theorem dL_setFixed_12 : decode cL_setFixed 12 = .ok (.goto 4, 3) := by decide +kernel
theorem dL_setFixed_15 : decode cL_setFixed 15 = .ok (.lconst 0, 1) := by decide +kernel
theorem dL_setFixed_16 : decode cL_setFixed 16 = .ok (.lastore, 1) := by decide +kernel
theorem dL_setFixed_17 : decode cL_setFixed 17 = .ok (.goto 11, 3) := by decide +kernel
theorem dL_setFixed_20 : decode cL_setFixed 20 = .ok (.astore 4, 2) := by decide +kernel
theorem dL_setFixed_22 : decode cL_setFixed 22 = .ok (.iconst 1, 1) := by decide +kernel
theorem dL_setFixed_23 : decode cL_setFixed 23 = .ok (.ireturn, 1) := by decide +kernel
theorem dL_setFixed_24 : decode cL_setFixed 24 = .ok (.astore 4, 2) := by decide +kernel
theorem dL_setFixed_26 : decode cL_setFixed 26 = .ok (.iconst 2, 1) := by decide +kernel
theorem dL_setFixed_27 : decode cL_setFixed 27 = .ok (.ireturn, 1) := by decide +kernel
theorem dL_setFixed_28 : decode cL_setFixed 28 = .ok (.iconst 0, 1) := by decide +kernel
theorem dL_setFixed_29 : decode cL_setFixed 29 = .ok (.ireturn, 1) := by decide +kernel
set_option maxRecDepth 20000 in
theorem ggL_swapColours_X10_swapColours : GoodIn wsL_swapColours wsX10_swapColours := goodIn_ca (goodIn_r _ [6, 7, 8, 9, 10, 11, 12, 5, 13, 14, 15, 16, 17, 18, 19, 20, 21, 22, 23, 24, 25, 26, 27, 28, 29, 30, 31, 32, 33, 34, 35, 36, 37, 38, 39, 40, 41, 42, 43, 44, 45, 46, 47, 48, 49, 50, 51, 52, 53, 54, 55, 56, 57, 58, 59, 60, 61, 62, 63, 64, 65, 66, 67, 68, 69, 70, 71, 72, 73, 74, 75, 76, 77, 78, 79, 80] (by decide +kernel) (by decide +kernel)) (goodIn_sub (fun _ h => List.mem_cons_of_mem _ (List.mem_append_right _ h)) (by decide +kernel))
set_option maxRecDepth 20000 in
theorem gL_swapColours_X10_swapColours : GoodIn wsL_swapColours (wsV RL 57 RX10 yX10_swapColours wsX10_swapColours) := goodIn_app (goodIn_of _ (by decide +kernel)) ggL_swapColours_X10_swapColours
theorem dL_swapColours_0 : decode cL_swapColours 0 = .ok (.aload_n 3, 1) := by decide +kernel
theorem dL_swapColours_1 : decode cL_swapColours 1 = .ok (.iconst 0, 1) := by decide +kernel
theorem dL_swapColours_2 : decode cL_swapColours 2 = .ok (.aload_n 0, 1) := by decide +kernel
theorem dL_swapColours_3 : decode cL_swapColours 3 = .ok (.iload_n 1, 1) := by decide +kernel
theorem dL_swapColours_4 : decode cL_swapColours 4 = .ok (.iload_n 2, 1) := by decide +kernel
theorem dL_swapColours_5 : decode cL_swapColours 5 = .ok (.invokevirtual 57, 3) := by decide +kernel
theorem dL_swapColours_8 : decode cL_swapColours 8 = .ok (.i2l, 1) := by decide +kernel
theorem dL_swapColours_9 : decode cL_swapColours 9 = .ok (.lastore, 1) := by decide +kernel
theorem dL_swapColours_10 : decode cL_swapColours 10 = .ok (.goto 7, 3) := by decide +kernel
theorem dL_swapColours_13 : decode cL_swapColours 13 = .ok (.astore 4, 2) := by decide +kernel
theorem dL_swapColours_15 : decode cL_swapColours 15 = .ok (.iconst 1, 1) := by decide +kernel
theorem dL_swapColours_16 : decode cL_swapColours 16 = .ok (.ireturn, 1) := by decide +kernel
theorem dL_swapColours_17 : decode cL_swapColours 17 = .ok (.iconst 0, 1) := by decide +kernel
theorem dL_swapColours_18 : decode cL_swapColours 18 = .ok (.ireturn, 1) := by decide +kernel
set_option maxRecDepth 20000 in
theorem ggL_extend_X10_extend : GoodIn wsL_extend wsX10_extend := goodIn_ca (goodIn_ca (goodIn_r _ [7, 8, 9, 10, 11, 12, 13, 14, 15, 16, 17, 6, 18, 19, 20, 21, 22, 23, 24, 25, 26, 27, 28, 29, 30, 31, 32, 33, 34, 35, 36, 37, 38, 39, 40, 41, 42, 43, 44, 45, 46, 47, 48, 49, 50, 51, 52, 53, 54, 55, 56, 57, 58, 59, 60, 61, 62, 63, 64, 65, 66, 67, 68, 69, 70, 71, 72, 73, 74, 75, 76, 77, 78, 79, 80, 81, 82, 83, 84, 85, 86, 87, 88, 89, 90, 91, 92, 93, 94, 95, 96, 97, 98, 99, 100, 101, 102, 103, 104, 105, 106, 107, 108, 109, 110, 111, 112, 113, 114, 115, 116, 117, 118, 119, 120, 121, 122, 123, 124, 125, 126, 127, 128, 129, 130, 131, 132, 133, 134, 135] (by decide +kernel) (by decide +kernel)) (goodIn_sub (fun _ h => List.mem_cons_of_mem _ (List.mem_append_left _ (List.mem_append_right _ h))) (by decide +kernel))) (goodIn_sub (fun _ h => List.mem_cons_of_mem _ (List.mem_append_right _ h)) (by decide +kernel))
set_option maxRecDepth 20000 in
theorem gL_extend_X10_extend : GoodIn wsL_extend (wsV RL 60 RX10 yX10_extend wsX10_extend) := goodIn_app (goodIn_of _ (by decide +kernel)) ggL_extend_X10_extend
theorem dL_extend_0 : decode cL_extend 0 = .ok (.aload_n 3, 1) := by decide +kernel
theorem dL_extend_1 : decode cL_extend 1 = .ok (.iconst 0, 1) := by decide +kernel
theorem dL_extend_2 : decode cL_extend 2 = .ok (.aload_n 0, 1) := by decide +kernel
theorem dL_extend_3 : decode cL_extend 3 = .ok (.iload_n 1, 1) := by decide +kernel
theorem dL_extend_4 : decode cL_extend 4 = .ok (.iload_n 2, 1) := by decide +kernel
theorem dL_extend_5 : decode cL_extend 5 = .ok (.invokevirtual 60, 3) := by decide +kernel
theorem dL_extend_8 : decode cL_extend 8 = .ok (.i2l, 1) := by decide +kernel
theorem dL_extend_9 : decode cL_extend 9 = .ok (.lastore, 1) := by decide +kernel
theorem dL_extend_10 : decode cL_extend 10 = .ok (.goto 11, 3) := by decide +kernel
theorem dL_extend_13 : decode cL_extend 13 = .ok (.astore 4, 2) := by decide +kernel
theorem dL_extend_15 : decode cL_extend 15 = .ok (.iconst 1, 1) := by decide +kernel
theorem dL_extend_16 : decode cL_extend 16 = .ok (.ireturn, 1) := by decide +kernel
theorem dL_extend_17 : decode cL_extend 17 = .ok (.astore 4, 2) := by decide +kernel
theorem dL_extend_19 : decode cL_extend 19 = .ok (.iconst 2, 1) := by decide +kernel
theorem dL_extend_20 : decode cL_extend 20 = .ok (.ireturn, 1) := by decide +kernel
theorem dL_extend_21 : decode cL_extend 21 = .ok (.iconst 0, 1) := by decide +kernel
theorem dL_extend_22 : decode cL_extend 22 = .ok (.ireturn, 1) := by decide +kernel
set_option maxRecDepth 20000 in
theorem ggL_repair_X10_repair : GoodIn wsL_repair wsX10_repair := goodIn_ca (goodIn_r _ [6, 7, 8, 9, 10, 11, 12, 13, 14, 15, 16, 17, 18, 19, 20, 21, 22, 23, 24, 25, 26, 27, 28, 29, 30, 31, 32, 33, 34, 35, 36, 37, 38, 39, 40, 41, 42, 43, 44, 45, 46, 47, 48, 49, 50, 51, 52, 53, 54, 55, 56, 57, 58, 59, 60, 61, 62, 63, 64, 65, 66, 67, 68, 69, 70, 71, 72, 73, 74, 75, 76, 77, 78, 79, 80, 81, 82, 83, 84, 85, 86, 87, 88, 89, 90, 91, 92, 93, 94, 95, 96, 97, 98, 99, 100, 101, 102, 103, 104, 105, 106, 107, 108, 109, 110, 111, 112, 113, 114, 115, 116, 117, 118, 119, 120, 121, 122, 123, 124, 125, 126, 127, 128, 129, 130, 131, 132, 133, 134, 135, 136, 137, 138, 139, 140, 141, 142, 143, 144, 145] (by decide +kernel) (by decide +kernel)) (goodIn_sub (fun _ h => List.mem_cons_of_mem _ (List.mem_append_right _ h)) (by decide +kernel))
set_option maxRecDepth 20000 in
theorem gL_repair_X10_repair : GoodIn wsL_repair (wsV RL 63 RX10 yX10_repair wsX10_repair) := goodIn_app (goodIn_of _ (by decide +kernel)) ggL_repair_X10_repair
theorem dL_repair_0 : decode cL_repair 0 = .ok (.aload_n 2, 1) := by decide +kernel
theorem dL_repair_1 : decode cL_repair 1 = .ok (.iconst 0, 1) := by decide +kernel
theorem dL_repair_2 : decode cL_repair 2 = .ok (.aload_n 0, 1) := by decide +kernel
theorem dL_repair_3 : decode cL_repair 3 = .ok (.iload_n 1, 1) := by decide +kernel
theorem dL_repair_4 : decode cL_repair 4 = .ok (.invokevirtual 63, 3) := by decide +kernel
theorem dL_repair_7 : decode cL_repair 7 = .ok (.i2l, 1) := by decide +kernel
theorem dL_repair_8 : decode cL_repair 8 = .ok (.lastore, 1) := by decide +kernel
theorem dL_repair_9 : decode cL_repair 9 = .ok (.goto 6, 3) := by decide +kernel
theorem dL_repair_12 : decode cL_repair 12 = .ok (.astore_n 3, 1) := by decide +kernel
theorem dL_repair_13 : decode cL_repair 13 = .ok (.iconst 1, 1) := by decide +kernel
theorem dL_repair_14 : decode cL_repair 14 = .ok (.ireturn, 1) := by decide +kernel
theorem dL_repair_15 : decode cL_repair 15 = .ok (.iconst 0, 1) := by decide +kernel
theorem dL_repair_16 : decode cL_repair 16 = .ok (.ireturn, 1) := by decide +kernel
