set_option maxRecDepth 20000 in
theorem ggL_setScale_X0_setScale : GoodIn wsL_setScale wsX0_setScale := goodIn_ca (goodIn_r _ [6, 7, 8, 9, 10, 11, 5, 12, 13, 14, 15, 16, 17, 18, 19, 20, 21, 22, 23, 24, 25, 26, 27, 28, 29, 30, 31, 32, 33, 34, 35, 36, 37, 38, 39, 40, 41, 42] (by decide +kernel) (by decide +kernel)) (goodIn_sub (fun _ h => List.mem_cons_of_mem _ (List.mem_append_right _ h)) (by decide +kernel))
set_option maxRecDepth 20000 in
theorem gL_setScale_X0_setScale : GoodIn wsL_setScale (wsV RL 7 RX0 yX0_setScale wsX0_setScale) := goodIn_app (goodIn_of _ (by decide +kernel)) ggL_setScale_X0_setScale
theorem dL_setScale_0 : decode cL_setScale 0 = .ok (.aload_n 3, 1) := by decide +kernel
theorem dL_setScale_1 : decode cL_setScale 1 = .ok (.iconst 0, 1) := by decide +kernel
theorem dL_setScale_2 : decode cL_setScale 2 = .ok (.aload_n 0, 1) := by decide +kernel
theorem dL_setScale_3 : decode cL_setScale 3 = .ok (.iload_n 1, 1) := by decide +kernel
theorem dL_setScale_4 : decode cL_setScale 4 = .ok (.iload_n 2, 1) := by decide +kernel
theorem dL_setScale_5 : decode cL_setScale 5 = .ok (.invokevirtual 7, 3) := by decide +kernel
theorem dL_setScale_8 : decode cL_setScale 8 = .ok (.i2l, 1) := by decide +kernel
theorem dL_setScale_9 : decode cL_setScale 9 = .ok (.lastore, 1) := by decide +kernel
theorem dL_setScale_10 : decode cL_setScale 10 = .ok (.goto 7, 3) := by decide +kernel
theorem dL_setScale_13 : decode cL_setScale 13 = .ok (.astore 4, 2) := by decide +kernel
theorem dL_setScale_15 : decode cL_setScale 15 = .ok (.iconst 1, 1) := by decide +kernel
theorem dL_setScale_16 : decode cL_setScale 16 = .ok (.ireturn, 1) := by decide +kernel
theorem dL_setScale_17 : decode cL_setScale 17 = .ok (.iconst 0, 1) := by decide +kernel
theorem dL_setScale_18 : decode cL_setScale 18 = .ok (.ireturn, 1) := by decide +kernel
set_option maxRecDepth 20000 in
theorem ggL_setNudging_X0_setNudging : GoodIn wsL_setNudging wsX0_setNudging := goodIn_ca (goodIn_r _ [6, 7, 8, 9, 10, 11, 5, 12, 13, 14, 15, 16, 17, 18, 19, 20, 21, 22, 23, 24, 25, 26] (by decide +kernel) (by decide +kernel)) (goodIn_sub (fun _ h => List.mem_cons_of_mem _ (List.mem_append_right _ h)) (by decide +kernel))
set_option maxRecDepth 20000 in
theorem gL_setNudging_X0_setNudging : GoodIn wsL_setNudging (wsV RL 15 RX0 yX0_setNudging wsX0_setNudging) := goodIn_app (goodIn_of _ (by decide +kernel)) ggL_setNudging_X0_setNudging
theorem dL_setNudging_0 : decode cL_setNudging 0 = .ok (.aload_n 0, 1) := by decide +kernel
theorem dL_setNudging_1 : decode cL_setNudging 1 = .ok (.iload_n 1, 1) := by decide +kernel
theorem dL_setNudging_2 : decode cL_setNudging 2 = .ok (.iload_n 2, 1) := by decide +kernel
theorem dL_setNudging_3 : decode cL_setNudging 3 = .ok (.iload_n 3, 1) := by decide +kernel
theorem dL_setNudging_4 : decode cL_setNudging 4 = .ok (.invokevirtual 15, 3) := by decide +kernel
theorem dL_setNudging_7 : decode cL_setNudging 7 = .ok (.goto 7, 3) := by decide +kernel
theorem dL_setNudging_10 : decode cL_setNudging 10 = .ok (.astore 4, 2) := by decide +kernel
theorem dL_setNudging_12 : decode cL_setNudging 12 = .ok (.iconst 1, 1) := by decide +kernel
theorem dL_setNudging_13 : decode cL_setNudging 13 = .ok (.ireturn, 1) := by decide +kernel
theorem dL_setNudging_14 : decode cL_setNudging 14 = .ok (.iconst 0, 1) := by decide +kernel
theorem dL_setNudging_15 : decode cL_setNudging 15 = .ok (.ireturn, 1) := by decide +kernel
set_option maxRecDepth 20000 in
theorem ggL_sing_X0_sing : GoodIn wsL_sing wsX0_sing := goodIn_ca (goodIn_ca (goodIn_r _ [7, 8, 9, 6, 10, 11, 12, 13, 14, 15, 16, 17, 18, 19, 20, 21, 22, 23, 24, 25, 26, 27, 28, 29, 30, 31, 32, 33, 34, 35, 36, 37, 38, 39, 40, 41, 42, 43, 44, 45, 46, 47, 48, 49, 50, 51, 52, 53, 54, 55, 56, 57, 58, 59, 60, 61, 62, 63, 64, 65, 66, 67, 68, 69, 70, 71, 72, 73, 74, 75, 76, 77, 78, 79, 80, 81, 82, 83, 84, 85, 86, 87, 88, 89, 90, 91, 92, 93, 94, 95, 96, 97, 98, 99, 100, 101, 102, 103, 104, 105, 106, 107, 108] (by decide +kernel) (by decide +kernel)) (goodIn_sub (fun _ h => List.mem_cons_of_mem _ (List.mem_append_left _ (List.mem_append_right _ h))) (by decide +kernel))) (goodIn_sub (fun _ h => List.mem_cons_of_mem _ (List.mem_append_right _ h)) (by decide +kernel))
set_option maxRecDepth 20000 in
theorem gL_sing_X0_sing : GoodIn wsL_sing (wsV RL 19 RX0 yX0_sing wsX0_sing) := goodIn_app (goodIn_of _ (by decide +kernel)) ggL_sing_X0_sing
theorem dL_sing_0 : decode cL_sing 0 = .ok (.aload_n 3, 1) := by decide +kernel
theorem dL_sing_1 : decode cL_sing 1 = .ok (.iconst 0, 1) := by decide +kernel
theorem dL_sing_2 : decode cL_sing 2 = .ok (.aload_n 0, 1) := by decide +kernel
theorem dL_sing_3 : decode cL_sing 3 = .ok (.iload_n 1, 1) := by decide +kernel
theorem dL_sing_4 : decode cL_sing 4 = .ok (.iload_n 2, 1) := by decide +kernel
theorem dL_sing_5 : decode cL_sing 5 = .ok (.invokevirtual 19, 3) := by decide +kernel
theorem dL_sing_8 : decode cL_sing 8 = .ok (.i2l, 1) := by decide +kernel
theorem dL_sing_9 : decode cL_sing 9 = .ok (.lastore, 1) := by decide +kernel
theorem dL_sing_10 : decode cL_sing 10 = .ok (.goto 11, 3) := by decide +kernel
theorem dL_sing_13 : decode cL_sing 13 = .ok (.astore 4, 2) := by decide +kernel
theorem dL_sing_15 : decode cL_sing 15 = .ok (.iconst 1, 1) := by decide +kernel
theorem dL_sing_16 : decode cL_sing 16 = .ok (.ireturn, 1) := by decide +kernel
theorem dL_sing_17 : decode cL_sing 17 = .ok (.astore 4, 2) := by decide +kernel
theorem dL_sing_19 : decode cL_sing 19 = .ok (.iconst 2, 1) := by decide +kernel
theorem dL_sing_20 : decode cL_sing 20 = .ok (.ireturn, 1) := by decide +kernel
theorem dL_sing_21 : decode cL_sing 21 = .ok (.iconst 0, 1) := by decide +kernel
theorem dL_sing_22 : decode cL_sing 22 = .ok (.ireturn, 1) := by decide +kernel
set_option maxRecDepth 20000 in
theorem ggL_slide_X0_slide : GoodIn wsL_slide wsX0_slide := goodIn_ca (goodIn_ca (goodIn_r _ [7, 8, 9, 10, 6, 11, 12, 13, 14, 15, 16, 17, 18, 19, 20, 21, 22, 23, 24, 25, 26, 27, 28, 29, 30, 31, 32, 33, 34, 35, 36, 37, 38, 39, 40, 41, 42, 43, 44, 45, 46, 47, 48, 49, 50, 51, 52, 53, 54, 55, 56, 57, 58, 59, 60, 61, 62, 63, 64, 65, 66, 67, 68, 69, 70, 71, 72, 73, 74, 75, 76, 77, 78, 79, 80, 81, 82, 83, 84, 85, 86, 87, 88, 89, 90, 91, 92, 93, 94, 95, 96, 97, 98, 99, 100, 101, 102, 103, 104, 105, 106, 107, 108, 109, 110, 111] (by decide +kernel) (by decide +kernel)) (goodIn_sub (fun _ h => List.mem_cons_of_mem _ (List.mem_append_left _ (List.mem_append_right _ h))) (by decide +kernel))) (goodIn_sub (fun _ h => List.mem_cons_of_mem _ (List.mem_append_right _ h)) (by decide +kernel))
set_option maxRecDepth 20000 in
theorem gL_slide_X0_slide : GoodIn wsL_slide (wsV RL 24 RX0 yX0_slide wsX0_slide) := goodIn_app (goodIn_of _ (by decide +kernel)) ggL_slide_X0_slide
theorem dL_slide_0 : decode cL_slide 0 = .ok (.aload 5, 2) := by decide +kernel
theorem dL_slide_2 : decode cL_slide 2 = .ok (.iconst 0, 1) := by decide +kernel
theorem dL_slide_3 : decode cL_slide 3 = .ok (.aload_n 0, 1) := by decide +kernel
theorem dL_slide_4 : decode cL_slide 4 = .ok (.iload_n 1, 1) := by decide +kernel
theorem dL_slide_5 : decode cL_slide 5 = .ok (.iload_n 2, 1) := by decide +kernel
theorem dL_slide_6 : decode cL_slide 6 = .ok (.iload_n 3, 1) := by decide +kernel
theorem dL_slide_7 : decode cL_slide 7 = .ok (.iload 4, 2) := by decide +kernel
theorem dL_slide_9 : decode cL_slide 9 = .ok (.invokevirtual 24, 3) := by decide +kernel
theorem dL_slide_12 : decode cL_slide 12 = .ok (.i2l, 1) := by decide +kernel
theorem dL_slide_13 : decode cL_slide 13 = .ok (.lastore, 1) := by decide +kernel
theorem dL_slide_14 : decode cL_slide 14 = .ok (.goto 11, 3) := by decide +kernel
theorem dL_slide_17 : decode cL_slide 17 = .ok (.astore 6, 2) := by decide +kernel
theorem dL_slide_19 : decode cL_slide 19 = .ok (.iconst 1, 1) := by decide +kernel
theorem dL_slide_20 : decode cL_slide 20 = .ok (.ireturn, 1) := by decide +kernel
theorem dL_slide_21 : decode cL_slide 21 = .ok (.astore 6, 2) := by decide +kernel
theorem dL_slide_23 : decode cL_slide 23 = .ok (.iconst 2, 1) := by decide +kernel
theorem dL_slide_24 : decode cL_slide 24 = .ok (.ireturn, 1) := by decide +kernel
theorem dL_slide_25 : decode cL_slide 25 = .ok (.iconst 0, 1) := by decide +kernel
theorem dL_slide_26 : decode cL_slide 26 = .ok (.ireturn, 1) := by decide +kernel
set_option maxRecDepth 20000 in
theorem ggL_rest_X0_rest : GoodIn wsL_rest wsX0_rest := goodIn_ca (goodIn_r _ [6, 7, 8, 9, 10, 5, 11, 12, 13, 14, 15, 16, 17, 18, 19, 20, 21, 22, 23, 24, 25] (by decide +kernel) (by decide +kernel)) (goodIn_sub (fun _ h => List.mem_cons_of_mem _ (List.mem_append_right _ h)) (by decide +kernel))
set_option maxRecDepth 20000 in
theorem gL_rest_X0_rest : GoodIn wsL_rest (wsV RL 28 RX0 yX0_rest wsX0_rest) := goodIn_app (goodIn_of _ (by decide +kernel)) ggL_rest_X0_rest
theorem dL_rest_0 : decode cL_rest 0 = .ok (.aload_n 2, 1) := by decide +kernel
theorem dL_rest_1 : decode cL_rest 1 = .ok (.iconst 0, 1) := by decide +kernel
theorem dL_rest_2 : decode cL_rest 2 = .ok (.aload_n 0, 1) := by decide +kernel
theorem dL_rest_3 : decode cL_rest 3 = .ok (.iload_n 1, 1) := by decide +kernel
theorem dL_rest_4 : decode cL_rest 4 = .ok (.invokevirtual 28, 3) := by decide +kernel
theorem dL_rest_7 : decode cL_rest 7 = .ok (.i2l, 1) := by decide +kernel
theorem dL_rest_8 : decode cL_rest 8 = .ok (.lastore, 1) := by decide +kernel
theorem dL_rest_9 : decode cL_rest 9 = .ok (.goto 6, 3) := by decide +kernel
theorem dL_rest_12 : decode cL_rest 12 = .ok (.astore_n 3, 1) := by decide +kernel
theorem dL_rest_13 : decode cL_rest 13 = .ok (.iconst 1, 1) := by decide +kernel
theorem dL_rest_14 : decode cL_rest 14 = .ok (.ireturn, 1) := by decide +kernel
theorem dL_rest_15 : decode cL_rest 15 = .ok (.iconst 0, 1) := by decide +kernel
theorem dL_rest_16 : decode cL_rest 16 = .ok (.ireturn, 1) := by decide +kernel
set_option maxRecDepth 20000 in
theorem ggL_nearest_X0_nearest : GoodIn wsL_nearest wsX0_nearest := goodIn_ca (goodIn_r _ [6, 7, 8, 5, 9, 10, 11, 12, 13, 14, 15, 16, 17, 18, 19, 20, 21, 22, 23, 24, 25, 26, 27, 28, 29, 30, 31, 32, 33, 34, 35, 36, 37, 38, 39, 40, 41, 42, 43, 44, 45, 46, 47, 48, 49, 50, 51, 52] (by decide +kernel) (by decide +kernel)) (goodIn_sub (fun _ h => List.mem_cons_of_mem _ (List.mem_append_right _ h)) (by decide +kernel))
set_option maxRecDepth 20000 in
theorem gL_nearest_X0_nearest : GoodIn wsL_nearest (wsV RL 32 RX0 yX0_nearest wsX0_nearest) := goodIn_app (goodIn_of _ (by decide +kernel)) ggL_nearest_X0_nearest
theorem dL_nearest_0 : decode cL_nearest 0 = .ok (.aload_n 2, 1) := by decide +kernel
theorem dL_nearest_1 : decode cL_nearest 1 = .ok (.iconst 0, 1) := by decide +kernel
theorem dL_nearest_2 : decode cL_nearest 2 = .ok (.aload_n 0, 1) := by decide +kernel
theorem dL_nearest_3 : decode cL_nearest 3 = .ok (.iload_n 1, 1) := by decide +kernel
theorem dL_nearest_4 : decode cL_nearest 4 = .ok (.invokevirtual 32, 3) := by decide +kernel
theorem dL_nearest_7 : decode cL_nearest 7 = .ok (.i2l, 1) := by decide +kernel
theorem dL_nearest_8 : decode cL_nearest 8 = .ok (.lastore, 1) := by decide +kernel
theorem dL_nearest_9 : decode cL_nearest 9 = .ok (.goto 6, 3) := by decide +kernel
theorem dL_nearest_12 : decode cL_nearest 12 = .ok (.astore_n 3, 1) := by decide +kernel
theorem dL_nearest_13 : decode cL_nearest 13 = .ok (.iconst 1, 1) := by decide +kernel
theorem dL_nearest_14 : decode cL_nearest 14 = .ok (.ireturn, 1) := by decide +kernel
theorem dL_nearest_15 : decode cL_nearest 15 = .ok (.iconst 0, 1) := by decide +kernel
theorem dL_nearest_16 : decode cL_nearest 16 = .ok (.ireturn, 1) := by decide +kernel
set_option maxRecDepth 20000 in
theorem ggL_rung_X0_rung : GoodIn wsL_rung wsX0_rung := goodIn_ca (goodIn_r _ [6, 7, 8, 9, 10, 11, 5, 12, 13, 14, 15, 16, 17, 18, 19, 20, 21, 22, 23, 24, 25, 26, 27, 28, 29, 30, 31, 32, 33, 34, 35, 36, 37, 38] (by decide +kernel) (by decide +kernel)) (goodIn_sub (fun _ h => List.mem_cons_of_mem _ (List.mem_append_right _ h)) (by decide +kernel))
set_option maxRecDepth 20000 in
theorem gL_rung_X0_rung : GoodIn wsL_rung (wsV RL 35 RX0 yX0_rung wsX0_rung) := goodIn_app (goodIn_of _ (by decide +kernel)) ggL_rung_X0_rung
theorem dL_rung_0 : decode cL_rung 0 = .ok (.aload_n 2, 1) := by decide +kernel
theorem dL_rung_1 : decode cL_rung 1 = .ok (.iconst 0, 1) := by decide +kernel
theorem dL_rung_2 : decode cL_rung 2 = .ok (.aload_n 0, 1) := by decide +kernel
theorem dL_rung_3 : decode cL_rung 3 = .ok (.iload_n 1, 1) := by decide +kernel
theorem dL_rung_4 : decode cL_rung 4 = .ok (.invokevirtual 35, 3) := by decide +kernel
theorem dL_rung_7 : decode cL_rung 7 = .ok (.i2l, 1) := by decide +kernel
theorem dL_rung_8 : decode cL_rung 8 = .ok (.lastore, 1) := by decide +kernel
theorem dL_rung_9 : decode cL_rung 9 = .ok (.goto 6, 3) := by decide +kernel
theorem dL_rung_12 : decode cL_rung 12 = .ok (.astore_n 3, 1) := by decide +kernel
theorem dL_rung_13 : decode cL_rung 13 = .ok (.iconst 1, 1) := by decide +kernel
theorem dL_rung_14 : decode cL_rung 14 = .ok (.ireturn, 1) := by decide +kernel
theorem dL_rung_15 : decode cL_rung 15 = .ok (.iconst 0, 1) := by decide +kernel
theorem dL_rung_16 : decode cL_rung 16 = .ok (.ireturn, 1) := by decide +kernel
set_option maxRecDepth 20000 in
theorem ggL_stepOf_X0_stepOf : GoodIn wsL_stepOf wsX0_stepOf := goodIn_ca (goodIn_r _ [6, 7, 8, 5, 9, 10, 11, 12, 13, 14, 15, 16, 17, 18, 19, 20, 21, 22, 23, 24, 25, 26, 27, 28, 29, 30, 31, 32, 33, 34, 35, 36, 37, 38, 39, 40] (by decide +kernel) (by decide +kernel)) (goodIn_sub (fun _ h => List.mem_cons_of_mem _ (List.mem_append_right _ h)) (by decide +kernel))
set_option maxRecDepth 20000 in
theorem gL_stepOf_X0_stepOf : GoodIn wsL_stepOf (wsV RL 38 RX0 yX0_stepOf wsX0_stepOf) := goodIn_app (goodIn_of _ (by decide +kernel)) ggL_stepOf_X0_stepOf
theorem dL_stepOf_0 : decode cL_stepOf 0 = .ok (.aload_n 2, 1) := by decide +kernel
theorem dL_stepOf_1 : decode cL_stepOf 1 = .ok (.iconst 0, 1) := by decide +kernel
theorem dL_stepOf_2 : decode cL_stepOf 2 = .ok (.aload_n 0, 1) := by decide +kernel
theorem dL_stepOf_3 : decode cL_stepOf 3 = .ok (.iload_n 1, 1) := by decide +kernel
theorem dL_stepOf_4 : decode cL_stepOf 4 = .ok (.invokevirtual 38, 3) := by decide +kernel
theorem dL_stepOf_7 : decode cL_stepOf 7 = .ok (.i2l, 1) := by decide +kernel
theorem dL_stepOf_8 : decode cL_stepOf 8 = .ok (.lastore, 1) := by decide +kernel
theorem dL_stepOf_9 : decode cL_stepOf 9 = .ok (.goto 6, 3) := by decide +kernel
theorem dL_stepOf_12 : decode cL_stepOf 12 = .ok (.astore_n 3, 1) := by decide +kernel
theorem dL_stepOf_13 : decode cL_stepOf 13 = .ok (.iconst 1, 1) := by decide +kernel
theorem dL_stepOf_14 : decode cL_stepOf 14 = .ok (.ireturn, 1) := by decide +kernel
theorem dL_stepOf_15 : decode cL_stepOf 15 = .ok (.iconst 0, 1) := by decide +kernel
theorem dL_stepOf_16 : decode cL_stepOf 16 = .ok (.ireturn, 1) := by decide +kernel
set_option maxRecDepth 20000 in
theorem ggL_rungOf_X0_rungOf : GoodIn wsL_rungOf wsX0_rungOf := goodIn_ca (goodIn_r _ [6, 7, 8, 9, 5, 10, 11, 12, 13, 14, 15, 16, 17, 18, 19, 20, 21, 22, 23, 24] (by decide +kernel) (by decide +kernel)) (goodIn_sub (fun _ h => List.mem_cons_of_mem _ (List.mem_append_right _ h)) (by decide +kernel))
set_option maxRecDepth 20000 in
theorem gL_rungOf_X0_rungOf : GoodIn wsL_rungOf (wsV RL 41 RX0 yX0_rungOf wsX0_rungOf) := goodIn_app (goodIn_of _ (by decide +kernel)) ggL_rungOf_X0_rungOf
theorem dL_rungOf_0 : decode cL_rungOf 0 = .ok (.aload_n 2, 1) := by decide +kernel
theorem dL_rungOf_1 : decode cL_rungOf 1 = .ok (.iconst 0, 1) := by decide +kernel
theorem dL_rungOf_2 : decode cL_rungOf 2 = .ok (.aload_n 0, 1) := by decide +kernel
theorem dL_rungOf_3 : decode cL_rungOf 3 = .ok (.iload_n 1, 1) := by decide +kernel
theorem dL_rungOf_4 : decode cL_rungOf 4 = .ok (.invokevirtual 41, 3) := by decide +kernel
theorem dL_rungOf_7 : decode cL_rungOf 7 = .ok (.i2l, 1) := by decide +kernel
theorem dL_rungOf_8 : decode cL_rungOf 8 = .ok (.lastore, 1) := by decide +kernel
theorem dL_rungOf_9 : decode cL_rungOf 9 = .ok (.goto 6, 3) := by decide +kernel
theorem dL_rungOf_12 : decode cL_rungOf 12 = .ok (.astore_n 3, 1) := by decide +kernel
theorem dL_rungOf_13 : decode cL_rungOf 13 = .ok (.iconst 1, 1) := by decide +kernel
theorem dL_rungOf_14 : decode cL_rungOf 14 = .ok (.ireturn, 1) := by decide +kernel
theorem dL_rungOf_15 : decode cL_rungOf 15 = .ok (.iconst 0, 1) := by decide +kernel
theorem dL_rungOf_16 : decode cL_rungOf 16 = .ok (.ireturn, 1) := by decide +kernel
set_option maxRecDepth 20000 in
theorem ggL_nudgeOf_X0_nudgeOf : GoodIn wsL_nudgeOf wsX0_nudgeOf := goodIn_ca (goodIn_r _ [6, 7, 8, 9, 5, 10, 11, 12, 13, 14, 15, 16, 17, 18, 19, 20, 21, 22, 23, 24] (by decide +kernel) (by decide +kernel)) (goodIn_sub (fun _ h => List.mem_cons_of_mem _ (List.mem_append_right _ h)) (by decide +kernel))
set_option maxRecDepth 20000 in
theorem gL_nudgeOf_X0_nudgeOf : GoodIn wsL_nudgeOf (wsV RL 44 RX0 yX0_nudgeOf wsX0_nudgeOf) := goodIn_app (goodIn_of _ (by decide +kernel)) ggL_nudgeOf_X0_nudgeOf
theorem dL_nudgeOf_0 : decode cL_nudgeOf 0 = .ok (.aload_n 2, 1) := by decide +kernel
theorem dL_nudgeOf_1 : decode cL_nudgeOf 1 = .ok (.iconst 0, 1) := by decide +kernel
theorem dL_nudgeOf_2 : decode cL_nudgeOf 2 = .ok (.aload_n 0, 1) := by decide +kernel
theorem dL_nudgeOf_3 : decode cL_nudgeOf 3 = .ok (.iload_n 1, 1) := by decide +kernel
theorem dL_nudgeOf_4 : decode cL_nudgeOf 4 = .ok (.invokevirtual 44, 3) := by decide +kernel
theorem dL_nudgeOf_7 : decode cL_nudgeOf 7 = .ok (.i2l, 1) := by decide +kernel
theorem dL_nudgeOf_8 : decode cL_nudgeOf 8 = .ok (.lastore, 1) := by decide +kernel
theorem dL_nudgeOf_9 : decode cL_nudgeOf 9 = .ok (.goto 6, 3) := by decide +kernel
theorem dL_nudgeOf_12 : decode cL_nudgeOf 12 = .ok (.astore_n 3, 1) := by decide +kernel
theorem dL_nudgeOf_13 : decode cL_nudgeOf 13 = .ok (.iconst 1, 1) := by decide +kernel
theorem dL_nudgeOf_14 : decode cL_nudgeOf 14 = .ok (.ireturn, 1) := by decide +kernel
theorem dL_nudgeOf_15 : decode cL_nudgeOf 15 = .ok (.iconst 0, 1) := by decide +kernel
theorem dL_nudgeOf_16 : decode cL_nudgeOf 16 = .ok (.ireturn, 1) := by decide +kernel
set_option maxRecDepth 20000 in
theorem ggL_framesOf_X0_framesOf : GoodIn wsL_framesOf wsX0_framesOf := goodIn_ca (goodIn_r _ [6, 7, 8, 9, 5, 10, 11, 12, 13, 14, 15, 16, 17, 18, 19, 20, 21, 22, 23, 24] (by decide +kernel) (by decide +kernel)) (goodIn_sub (fun _ h => List.mem_cons_of_mem _ (List.mem_append_right _ h)) (by decide +kernel))
set_option maxRecDepth 20000 in
theorem gL_framesOf_X0_framesOf : GoodIn wsL_framesOf (wsV RL 47 RX0 yX0_framesOf wsX0_framesOf) := goodIn_app (goodIn_of _ (by decide +kernel)) ggL_framesOf_X0_framesOf
theorem dL_framesOf_0 : decode cL_framesOf 0 = .ok (.aload_n 2, 1) := by decide +kernel
theorem dL_framesOf_1 : decode cL_framesOf 1 = .ok (.iconst 0, 1) := by decide +kernel
theorem dL_framesOf_2 : decode cL_framesOf 2 = .ok (.aload_n 0, 1) := by decide +kernel
theorem dL_framesOf_3 : decode cL_framesOf 3 = .ok (.iload_n 1, 1) := by decide +kernel
theorem dL_framesOf_4 : decode cL_framesOf 4 = .ok (.invokevirtual 47, 3) := by decide +kernel
theorem dL_framesOf_7 : decode cL_framesOf 7 = .ok (.i2l, 1) := by decide +kernel
theorem dL_framesOf_8 : decode cL_framesOf 8 = .ok (.lastore, 1) := by decide +kernel
theorem dL_framesOf_9 : decode cL_framesOf 9 = .ok (.goto 6, 3) := by decide +kernel
theorem dL_framesOf_12 : decode cL_framesOf 12 = .ok (.astore_n 3, 1) := by decide +kernel
theorem dL_framesOf_13 : decode cL_framesOf 13 = .ok (.iconst 1, 1) := by decide +kernel
theorem dL_framesOf_14 : decode cL_framesOf 14 = .ok (.ireturn, 1) := by decide +kernel
theorem dL_framesOf_15 : decode cL_framesOf 15 = .ok (.iconst 0, 1) := by decide +kernel
theorem dL_framesOf_16 : decode cL_framesOf 16 = .ok (.ireturn, 1) := by decide +kernel
set_option maxRecDepth 20000 in
theorem ggL_changesOf_X0_changesOf : GoodIn wsL_changesOf wsX0_changesOf := goodIn_ca (goodIn_r _ [6, 7, 8, 9, 5, 10, 11, 12, 13, 14, 15, 16, 17, 18, 19, 20, 21, 22, 23, 24] (by decide +kernel) (by decide +kernel)) (goodIn_sub (fun _ h => List.mem_cons_of_mem _ (List.mem_append_right _ h)) (by decide +kernel))
set_option maxRecDepth 20000 in
theorem gL_changesOf_X0_changesOf : GoodIn wsL_changesOf (wsV RL 50 RX0 yX0_changesOf wsX0_changesOf) := goodIn_app (goodIn_of _ (by decide +kernel)) ggL_changesOf_X0_changesOf
theorem dL_changesOf_0 : decode cL_changesOf 0 = .ok (.aload_n 2, 1) := by decide +kernel
theorem dL_changesOf_1 : decode cL_changesOf 1 = .ok (.iconst 0, 1) := by decide +kernel
theorem dL_changesOf_2 : decode cL_changesOf 2 = .ok (.aload_n 0, 1) := by decide +kernel
theorem dL_changesOf_3 : decode cL_changesOf 3 = .ok (.iload_n 1, 1) := by decide +kernel
theorem dL_changesOf_4 : decode cL_changesOf 4 = .ok (.invokevirtual 50, 3) := by decide +kernel
theorem dL_changesOf_7 : decode cL_changesOf 7 = .ok (.i2l, 1) := by decide +kernel
theorem dL_changesOf_8 : decode cL_changesOf 8 = .ok (.lastore, 1) := by decide +kernel
theorem dL_changesOf_9 : decode cL_changesOf 9 = .ok (.goto 6, 3) := by decide +kernel
theorem dL_changesOf_12 : decode cL_changesOf 12 = .ok (.astore_n 3, 1) := by decide +kernel
theorem dL_changesOf_13 : decode cL_changesOf 13 = .ok (.iconst 1, 1) := by decide +kernel
theorem dL_changesOf_14 : decode cL_changesOf 14 = .ok (.ireturn, 1) := by decide +kernel
theorem dL_changesOf_15 : decode cL_changesOf 15 = .ok (.iconst 0, 1) := by decide +kernel
theorem dL_changesOf_16 : decode cL_changesOf 16 = .ok (.ireturn, 1) := by decide +kernel
set_option maxRecDepth 20000 in
theorem ggL_leapsOf_X0_leapsOf : GoodIn wsL_leapsOf wsX0_leapsOf := goodIn_ca (goodIn_r _ [6, 7, 8, 9, 5, 10, 11, 12, 13, 14, 15, 16, 17, 18, 19, 20, 21, 22, 23, 24] (by decide +kernel) (by decide +kernel)) (goodIn_sub (fun _ h => List.mem_cons_of_mem _ (List.mem_append_right _ h)) (by decide +kernel))
set_option maxRecDepth 20000 in
theorem gL_leapsOf_X0_leapsOf : GoodIn wsL_leapsOf (wsV RL 53 RX0 yX0_leapsOf wsX0_leapsOf) := goodIn_app (goodIn_of _ (by decide +kernel)) ggL_leapsOf_X0_leapsOf
theorem dL_leapsOf_0 : decode cL_leapsOf 0 = .ok (.aload_n 2, 1) := by decide +kernel
theorem dL_leapsOf_1 : decode cL_leapsOf 1 = .ok (.iconst 0, 1) := by decide +kernel
theorem dL_leapsOf_2 : decode cL_leapsOf 2 = .ok (.aload_n 0, 1) := by decide +kernel
theorem dL_leapsOf_3 : decode cL_leapsOf 3 = .ok (.iload_n 1, 1) := by decide +kernel
theorem dL_leapsOf_4 : decode cL_leapsOf 4 = .ok (.invokevirtual 53, 3) := by decide +kernel
theorem dL_leapsOf_7 : decode cL_leapsOf 7 = .ok (.i2l, 1) := by decide +kernel
theorem dL_leapsOf_8 : decode cL_leapsOf 8 = .ok (.lastore, 1) := by decide +kernel
theorem dL_leapsOf_9 : decode cL_leapsOf 9 = .ok (.goto 6, 3) := by decide +kernel
theorem dL_leapsOf_12 : decode cL_leapsOf 12 = .ok (.astore_n 3, 1) := by decide +kernel
theorem dL_leapsOf_13 : decode cL_leapsOf 13 = .ok (.iconst 1, 1) := by decide +kernel
theorem dL_leapsOf_14 : decode cL_leapsOf 14 = .ok (.ireturn, 1) := by decide +kernel
theorem dL_leapsOf_15 : decode cL_leapsOf 15 = .ok (.iconst 0, 1) := by decide +kernel
theorem dL_leapsOf_16 : decode cL_leapsOf 16 = .ok (.ireturn, 1) := by decide +kernel
set_option maxRecDepth 20000 in
theorem ggL_cleanOf_X0_cleanOf : GoodIn wsL_cleanOf wsX0_cleanOf := goodIn_ca (goodIn_r _ [6, 7, 8, 9, 5, 10, 11, 12, 13, 14, 15, 16, 17, 18, 19, 20, 21, 22, 23, 24] (by decide +kernel) (by decide +kernel)) (goodIn_sub (fun _ h => List.mem_cons_of_mem _ (List.mem_append_right _ h)) (by decide +kernel))
set_option maxRecDepth 20000 in
theorem gL_cleanOf_X0_cleanOf : GoodIn wsL_cleanOf (wsV RL 56 RX0 yX0_cleanOf wsX0_cleanOf) := goodIn_app (goodIn_of _ (by decide +kernel)) ggL_cleanOf_X0_cleanOf
theorem dL_cleanOf_0 : decode cL_cleanOf 0 = .ok (.aload_n 2, 1) := by decide +kernel
theorem dL_cleanOf_1 : decode cL_cleanOf 1 = .ok (.iconst 0, 1) := by decide +kernel
theorem dL_cleanOf_2 : decode cL_cleanOf 2 = .ok (.aload_n 0, 1) := by decide +kernel
theorem dL_cleanOf_3 : decode cL_cleanOf 3 = .ok (.iload_n 1, 1) := by decide +kernel
theorem dL_cleanOf_4 : decode cL_cleanOf 4 = .ok (.invokevirtual 56, 3) := by decide +kernel
theorem dL_cleanOf_7 : decode cL_cleanOf 7 = .ok (.i2l, 1) := by decide +kernel
theorem dL_cleanOf_8 : decode cL_cleanOf 8 = .ok (.lastore, 1) := by decide +kernel
theorem dL_cleanOf_9 : decode cL_cleanOf 9 = .ok (.goto 6, 3) := by decide +kernel
theorem dL_cleanOf_12 : decode cL_cleanOf 12 = .ok (.astore_n 3, 1) := by decide +kernel
theorem dL_cleanOf_13 : decode cL_cleanOf 13 = .ok (.iconst 1, 1) := by decide +kernel
theorem dL_cleanOf_14 : decode cL_cleanOf 14 = .ok (.ireturn, 1) := by decide +kernel
theorem dL_cleanOf_15 : decode cL_cleanOf 15 = .ok (.iconst 0, 1) := by decide +kernel
theorem dL_cleanOf_16 : decode cL_cleanOf 16 = .ok (.ireturn, 1) := by decide +kernel
set_option maxRecDepth 20000 in
theorem ggL_framesToRung_X0_framesToRung : GoodIn wsL_framesToRung wsX0_framesToRung := goodIn_ca (goodIn_ca (goodIn_r _ [7, 8, 9, 10, 6, 11, 12, 13, 14, 15, 16, 17, 18, 19, 20, 21, 22, 23, 24, 25, 26, 27, 28, 29, 30, 31, 32, 33, 34, 35, 36, 37, 38, 39, 40, 41, 42, 43, 44, 45, 46, 47, 48, 49, 50, 51, 52, 53, 54, 55, 56, 57, 58, 59, 60, 61, 62, 63, 64, 65, 66, 67, 68, 69, 70, 71, 72, 73, 74, 75, 76, 77, 78, 79, 80, 81, 82, 83, 84, 85, 86, 87, 88, 89, 90, 91, 92] (by decide +kernel) (by decide +kernel)) (goodIn_sub (fun _ h => List.mem_cons_of_mem _ (List.mem_append_left _ (List.mem_append_right _ h))) (by decide +kernel))) (goodIn_sub (fun _ h => List.mem_cons_of_mem _ (List.mem_append_right _ h)) (by decide +kernel))
set_option maxRecDepth 20000 in
theorem gL_framesToRung_X0_framesToRung : GoodIn wsL_framesToRung (wsV RL 59 RX0 yX0_framesToRung wsX0_framesToRung) := goodIn_app (goodIn_of _ (by decide +kernel)) ggL_framesToRung_X0_framesToRung
theorem dL_framesToRung_0 : decode cL_framesToRung 0 = .ok (.aload_n 3, 1) := by decide +kernel
theorem dL_framesToRung_1 : decode cL_framesToRung 1 = .ok (.iconst 0, 1) := by decide +kernel
theorem dL_framesToRung_2 : decode cL_framesToRung 2 = .ok (.aload_n 0, 1) := by decide +kernel
theorem dL_framesToRung_3 : decode cL_framesToRung 3 = .ok (.iload_n 1, 1) := by decide +kernel
theorem dL_framesToRung_4 : decode cL_framesToRung 4 = .ok (.iload_n 2, 1) := by decide +kernel
theorem dL_framesToRung_5 : decode cL_framesToRung 5 = .ok (.invokevirtual 59, 3) := by decide +kernel
theorem dL_framesToRung_8 : decode cL_framesToRung 8 = .ok (.i2l, 1) := by decide +kernel
theorem dL_framesToRung_9 : decode cL_framesToRung 9 = .ok (.lastore, 1) := by decide +kernel
theorem dL_framesToRung_10 : decode cL_framesToRung 10 = .ok (.goto 11, 3) := by decide +kernel
theorem dL_framesToRung_13 : decode cL_framesToRung 13 = .ok (.astore 4, 2) := by decide +kernel
theorem dL_framesToRung_15 : decode cL_framesToRung 15 = .ok (.iconst 1, 1) := by decide +kernel
theorem dL_framesToRung_16 : decode cL_framesToRung 16 = .ok (.ireturn, 1) := by decide +kernel
theorem dL_framesToRung_17 : decode cL_framesToRung 17 = .ok (.astore 4, 2) := by decide +kernel
theorem dL_framesToRung_19 : decode cL_framesToRung 19 = .ok (.iconst 2, 1) := by decide +kernel
theorem dL_framesToRung_20 : decode cL_framesToRung 20 = .ok (.ireturn, 1) := by decide +kernel
theorem dL_framesToRung_21 : decode cL_framesToRung 21 = .ok (.iconst 0, 1) := by decide +kernel
theorem dL_framesToRung_22 : decode cL_framesToRung 22 = .ok (.ireturn, 1) := by decide +kernel
set_option maxRecDepth 20000 in
theorem ggL_sung_X0_sung : GoodIn wsL_sung wsX0_sung := goodIn_ca (goodIn_r _ [6, 7, 8, 9, 10, 11, 12, 13, 14, 15, 16, 17, 18, 19, 20, 21] (by decide +kernel) (by decide +kernel)) (goodIn_sub (fun _ h => List.mem_cons_of_mem _ (List.mem_append_right _ h)) (by decide +kernel))
set_option maxRecDepth 20000 in
theorem gL_sung_X0_sung : GoodIn wsL_sung (wsV RL 62 RX0 yX0_sung wsX0_sung) := goodIn_app (goodIn_of _ (by decide +kernel)) ggL_sung_X0_sung
theorem dL_sung_0 : decode cL_sung 0 = .ok (.aload_n 2, 1) := by decide +kernel
theorem dL_sung_1 : decode cL_sung 1 = .ok (.iconst 0, 1) := by decide +kernel
theorem dL_sung_2 : decode cL_sung 2 = .ok (.aload_n 0, 1) := by decide +kernel
theorem dL_sung_3 : decode cL_sung 3 = .ok (.iload_n 1, 1) := by decide +kernel
theorem dL_sung_4 : decode cL_sung 4 = .ok (.invokevirtual 62, 3) := by decide +kernel
theorem dL_sung_7 : decode cL_sung 7 = .ok (.i2l, 1) := by decide +kernel
theorem dL_sung_8 : decode cL_sung 8 = .ok (.lastore, 1) := by decide +kernel
theorem dL_sung_9 : decode cL_sung 9 = .ok (.goto 6, 3) := by decide +kernel
theorem dL_sung_12 : decode cL_sung 12 = .ok (.astore_n 3, 1) := by decide +kernel
theorem dL_sung_13 : decode cL_sung 13 = .ok (.iconst 1, 1) := by decide +kernel
theorem dL_sung_14 : decode cL_sung 14 = .ok (.ireturn, 1) := by decide +kernel
theorem dL_sung_15 : decode cL_sung 15 = .ok (.iconst 0, 1) := by decide +kernel
theorem dL_sung_16 : decode cL_sung 16 = .ok (.ireturn, 1) := by decide +kernel
set_option maxRecDepth 20000 in
theorem ggL_bestKey_X0_bestKey : GoodIn wsL_bestKey wsX0_bestKey := goodIn_ca (goodIn_r _ [6, 7, 8, 5, 9, 10, 11, 12, 13, 14, 15, 16, 17, 18, 19, 20, 21, 22, 23, 24, 25, 26, 27, 28, 29, 30, 31, 32, 33, 34, 35, 36] (by decide +kernel) (by decide +kernel)) (goodIn_sub (fun _ h => List.mem_cons_of_mem _ (List.mem_append_right _ h)) (by decide +kernel))
set_option maxRecDepth 20000 in
theorem gL_bestKey_X0_bestKey : GoodIn wsL_bestKey (wsV RL 65 RX0 yX0_bestKey wsX0_bestKey) := goodIn_app (goodIn_of _ (by decide +kernel)) ggL_bestKey_X0_bestKey
theorem dL_bestKey_0 : decode cL_bestKey 0 = .ok (.aload_n 2, 1) := by decide +kernel
theorem dL_bestKey_1 : decode cL_bestKey 1 = .ok (.iconst 0, 1) := by decide +kernel
theorem dL_bestKey_2 : decode cL_bestKey 2 = .ok (.aload_n 0, 1) := by decide +kernel
theorem dL_bestKey_3 : decode cL_bestKey 3 = .ok (.iload_n 1, 1) := by decide +kernel
theorem dL_bestKey_4 : decode cL_bestKey 4 = .ok (.invokevirtual 65, 3) := by decide +kernel
theorem dL_bestKey_7 : decode cL_bestKey 7 = .ok (.i2l, 1) := by decide +kernel
theorem dL_bestKey_8 : decode cL_bestKey 8 = .ok (.lastore, 1) := by decide +kernel
theorem dL_bestKey_9 : decode cL_bestKey 9 = .ok (.goto 6, 3) := by decide +kernel
theorem dL_bestKey_12 : decode cL_bestKey 12 = .ok (.astore_n 3, 1) := by decide +kernel
theorem dL_bestKey_13 : decode cL_bestKey 13 = .ok (.iconst 1, 1) := by decide +kernel
theorem dL_bestKey_14 : decode cL_bestKey 14 = .ok (.ireturn, 1) := by decide +kernel
theorem dL_bestKey_15 : decode cL_bestKey 15 = .ok (.iconst 0, 1) := by decide +kernel
theorem dL_bestKey_16 : decode cL_bestKey 16 = .ok (.ireturn, 1) := by decide +kernel
set_option maxRecDepth 20000 in
theorem ggL_within_X0_within : GoodIn wsL_within wsX0_within := goodIn_ca (goodIn_r _ [6, 7, 8, 5, 9, 10, 11, 12, 13, 14, 15, 16, 17, 18, 19, 20, 21, 22, 23, 24, 25, 26, 27, 28, 29, 30, 31, 32, 33, 34, 35, 36] (by decide +kernel) (by decide +kernel)) (goodIn_sub (fun _ h => List.mem_cons_of_mem _ (List.mem_append_right _ h)) (by decide +kernel))
set_option maxRecDepth 20000 in
theorem gL_within_X0_within : GoodIn wsL_within (wsV RL 68 RX0 yX0_within wsX0_within) := goodIn_app (goodIn_of _ (by decide +kernel)) ggL_within_X0_within
theorem dL_within_0 : decode cL_within 0 = .ok (.aload_n 3, 1) := by decide +kernel
theorem dL_within_1 : decode cL_within 1 = .ok (.iconst 0, 1) := by decide +kernel
theorem dL_within_2 : decode cL_within 2 = .ok (.aload_n 0, 1) := by decide +kernel
theorem dL_within_3 : decode cL_within 3 = .ok (.iload_n 1, 1) := by decide +kernel
theorem dL_within_4 : decode cL_within 4 = .ok (.iload_n 2, 1) := by decide +kernel
theorem dL_within_5 : decode cL_within 5 = .ok (.invokevirtual 68, 3) := by decide +kernel
theorem dL_within_8 : decode cL_within 8 = .ok (.i2l, 1) := by decide +kernel
theorem dL_within_9 : decode cL_within 9 = .ok (.lastore, 1) := by decide +kernel
theorem dL_within_10 : decode cL_within 10 = .ok (.goto 7, 3) := by decide +kernel
theorem dL_within_13 : decode cL_within 13 = .ok (.astore 4, 2) := by decide +kernel
theorem dL_within_15 : decode cL_within 15 = .ok (.iconst 1, 1) := by decide +kernel
theorem dL_within_16 : decode cL_within 16 = .ok (.ireturn, 1) := by decide +kernel
theorem dL_within_17 : decode cL_within 17 = .ok (.iconst 0, 1) := by decide +kernel
theorem dL_within_18 : decode cL_within 18 = .ok (.ireturn, 1) := by decide +kernel
