theorem dL_cell_0 : decode cL_cell 0 = .ok (.iload_n 1, 1) := by decide +kernel
theorem dL_cell_1 : decode cL_cell 1 = .ok (.aload_n 0, 1) := by decide +kernel
theorem dL_cell_2 : decode cL_cell 2 = .ok (.arraylength, 1) := by decide +kernel
theorem dL_cell_3 : decode cL_cell 3 = .ok (.if_icmp .ge 9, 3) := by decide +kernel
theorem dL_cell_6 : decode cL_cell 6 = .ok (.aload_n 0, 1) := by decide +kernel
theorem dL_cell_7 : decode cL_cell 7 = .ok (.iload_n 1, 1) := by decide +kernel
theorem dL_cell_8 : decode cL_cell 8 = .ok (.iaload, 1) := by decide +kernel
theorem dL_cell_9 : decode cL_cell 9 = .ok (.goto 17, 3) := by decide +kernel
theorem dL_cell_12 : decode cL_cell 12 = .ok (.sipush 7919, 3) := by decide +kernel
theorem dL_cell_15 : decode cL_cell 15 = .ok (.iload_n 1, 1) := by decide +kernel
theorem dL_cell_16 : decode cL_cell 16 = .ok (.bipush 7, 2) := by decide +kernel
theorem dL_cell_18 : decode cL_cell 18 = .ok (.iadd, 1) := by decide +kernel
theorem dL_cell_19 : decode cL_cell 19 = .ok (.imul, 1) := by decide +kernel
theorem dL_cell_20 : decode cL_cell 20 = .ok (.iload_n 1, 1) := by decide +kernel
theorem dL_cell_21 : decode cL_cell 21 = .ok (.sipush 2089, 3) := by decide +kernel
theorem dL_cell_24 : decode cL_cell 24 = .ok (.iadd, 1) := by decide +kernel
theorem dL_cell_25 : decode cL_cell 25 = .ok (.imul, 1) := by decide +kernel
theorem dL_cell_26 : decode cL_cell 26 = .ok (.ireturn, 1) := by decide +kernel
theorem dL_low_0 : decode cL_low 0 = .ok (.iload_n 0, 1) := by decide +kernel
theorem dL_low_1 : decode cL_low 1 = .ok (.ldc 7, 2) := by decide +kernel
theorem dL_low_3 : decode cL_low 3 = .ok (.iand, 1) := by decide +kernel
theorem dL_low_4 : decode cL_low 4 = .ok (.iload_n 1, 1) := by decide +kernel
theorem dL_low_5 : decode cL_low 5 = .ok (.irem, 1) := by decide +kernel
theorem dL_low_6 : decode cL_low 6 = .ok (.ireturn, 1) := by decide +kernel
set_option maxRecDepth 20000 in
theorem ggL_sing_X0_sing : GoodIn wsL_sing wsX0_sing := goodIn_ca (goodIn_ca (goodIn_r _ [8, 9, 10, 7, 11, 12, 13, 14, 15, 16, 17, 18, 19, 20, 21, 22, 23, 24, 25, 26, 27, 28, 29, 30, 31, 32, 33, 34, 35, 36, 37, 38, 39, 40, 41, 42, 43, 44, 45, 46, 47, 48, 49, 50, 51, 52, 53, 54, 55, 56, 57, 58, 59, 60, 61, 62, 63, 64, 65, 66, 67, 68, 69, 70, 71, 72, 73, 74, 75, 76, 77, 78, 79, 80, 81, 82, 83, 84, 85, 86, 87, 88, 89, 90, 91, 92, 93, 94, 95, 96, 97, 98, 99, 100, 101, 102, 103, 104, 105, 106, 107, 108, 109] (by decide +kernel) (by decide +kernel)) (goodIn_sub (fun _ h => List.mem_cons_of_mem _ (List.mem_append_left _ (List.mem_append_right _ h))) (by decide +kernel))) (goodIn_sub (fun _ h => List.mem_cons_of_mem _ (List.mem_append_right _ h)) (by decide +kernel))
set_option maxRecDepth 20000 in
theorem gL_sing_X0_sing : GoodIn wsL_sing (wsV RL 8 RX0 yX0_sing wsX0_sing) := goodIn_app (goodIn_of _ (by decide +kernel)) ggL_sing_X0_sing
theorem dL_sing_0 : decode cL_sing 0 = .ok (.aload_n 0, 1) := by decide +kernel
theorem dL_sing_1 : decode cL_sing 1 = .ok (.iload_n 1, 1) := by decide +kernel
theorem dL_sing_2 : decode cL_sing 2 = .ok (.iload_n 2, 1) := by decide +kernel
theorem dL_sing_3 : decode cL_sing 3 = .ok (.invokevirtual 8, 3) := by decide +kernel
theorem dL_sing_6 : decode cL_sing 6 = .ok (.ireturn, 1) := by decide +kernel
theorem dL_sing_7 : decode cL_sing 7 = .ok (.astore_n 3, 1) := by decide +kernel
theorem dL_sing_8 : decode cL_sing 8 = .ok (.ldc 16, 2) := by decide +kernel
theorem dL_sing_10 : decode cL_sing 10 = .ok (.ireturn, 1) := by decide +kernel
theorem dL_sing_11 : decode cL_sing 11 = .ok (.astore_n 3, 1) := by decide +kernel
theorem dL_sing_12 : decode cL_sing 12 = .ok (.ldc 16, 2) := by decide +kernel
theorem dL_sing_14 : decode cL_sing 14 = .ok (.ireturn, 1) := by decide +kernel
set_option maxRecDepth 20000 in
theorem ggL_slide_X0_slide : GoodIn wsL_slide wsX0_slide := goodIn_ca (goodIn_ca (goodIn_r _ [8, 9, 10, 11, 7, 12, 13, 14, 15, 16, 17, 18, 19, 20, 21, 22, 23, 24, 25, 26, 27, 28, 29, 30, 31, 32, 33, 34, 35, 36, 37, 38, 39, 40, 41, 42, 43, 44, 45, 46, 47, 48, 49, 50, 51, 52, 53, 54, 55, 56, 57, 58, 59, 60, 61, 62, 63, 64, 65, 66, 67, 68, 69, 70, 71, 72, 73, 74, 75, 76, 77, 78, 79, 80, 81, 82, 83, 84, 85, 86, 87, 88, 89, 90, 91, 92, 93, 94, 95, 96, 97, 98, 99, 100, 101, 102, 103, 104, 105, 106, 107, 108, 109, 110, 111, 112] (by decide +kernel) (by decide +kernel)) (goodIn_sub (fun _ h => List.mem_cons_of_mem _ (List.mem_append_left _ (List.mem_append_right _ h))) (by decide +kernel))) (goodIn_sub (fun _ h => List.mem_cons_of_mem _ (List.mem_append_right _ h)) (by decide +kernel))
set_option maxRecDepth 20000 in
theorem gL_slide_X0_slide : GoodIn wsL_slide (wsV RL 19 RX0 yX0_slide wsX0_slide) := goodIn_app (goodIn_of _ (by decide +kernel)) ggL_slide_X0_slide
theorem dL_slide_0 : decode cL_slide 0 = .ok (.aload_n 0, 1) := by decide +kernel
theorem dL_slide_1 : decode cL_slide 1 = .ok (.iload_n 1, 1) := by decide +kernel
theorem dL_slide_2 : decode cL_slide 2 = .ok (.iload_n 2, 1) := by decide +kernel
theorem dL_slide_3 : decode cL_slide 3 = .ok (.iload_n 3, 1) := by decide +kernel
theorem dL_slide_4 : decode cL_slide 4 = .ok (.iload 4, 2) := by decide +kernel
theorem dL_slide_6 : decode cL_slide 6 = .ok (.invokevirtual 19, 3) := by decide +kernel
theorem dL_slide_9 : decode cL_slide 9 = .ok (.ireturn, 1) := by decide +kernel
theorem dL_slide_10 : decode cL_slide 10 = .ok (.astore 5, 2) := by decide +kernel
theorem dL_slide_12 : decode cL_slide 12 = .ok (.ldc 16, 2) := by decide +kernel
theorem dL_slide_14 : decode cL_slide 14 = .ok (.ireturn, 1) := by decide +kernel
theorem dL_slide_15 : decode cL_slide 15 = .ok (.astore 5, 2) := by decide +kernel
theorem dL_slide_17 : decode cL_slide 17 = .ok (.ldc 16, 2) := by decide +kernel
theorem dL_slide_19 : decode cL_slide 19 = .ok (.ireturn, 1) := by decide +kernel
set_option maxRecDepth 20000 in
theorem ggL_rest_X0_rest : GoodIn wsL_rest wsX0_rest := goodIn_ca (goodIn_r _ [7, 8, 9, 10, 11, 6, 12, 13, 14, 15, 16, 17, 18, 19, 20, 21, 22, 23, 24, 25, 26] (by decide +kernel) (by decide +kernel)) (goodIn_sub (fun _ h => List.mem_cons_of_mem _ (List.mem_append_right _ h)) (by decide +kernel))
set_option maxRecDepth 20000 in
theorem gL_rest_X0_rest : GoodIn wsL_rest (wsV RL 23 RX0 yX0_rest wsX0_rest) := goodIn_app (goodIn_of _ (by decide +kernel)) ggL_rest_X0_rest
theorem dL_rest_0 : decode cL_rest 0 = .ok (.aload_n 0, 1) := by decide +kernel
theorem dL_rest_1 : decode cL_rest 1 = .ok (.iload_n 1, 1) := by decide +kernel
theorem dL_rest_2 : decode cL_rest 2 = .ok (.invokevirtual 23, 3) := by decide +kernel
theorem dL_rest_5 : decode cL_rest 5 = .ok (.ireturn, 1) := by decide +kernel
theorem dL_rest_6 : decode cL_rest 6 = .ok (.astore_n 2, 1) := by decide +kernel
theorem dL_rest_7 : decode cL_rest 7 = .ok (.ldc 16, 2) := by decide +kernel
theorem dL_rest_9 : decode cL_rest 9 = .ok (.ireturn, 1) := by decide +kernel
set_option maxRecDepth 20000 in
theorem ggL_scale_X0_setScale : GoodIn wsL_scale wsX0_setScale := goodIn_ca (goodIn_r _ [7, 8, 9, 10, 11, 12, 6, 13, 14, 15, 16, 17, 18, 19, 20, 21, 22, 23, 24, 25, 26, 27, 28, 29, 30, 31, 32, 33, 34, 35, 36, 37, 38, 39, 40, 41, 42, 43] (by decide +kernel) (by decide +kernel)) (goodIn_sub (fun _ h => List.mem_cons_of_mem _ (List.mem_append_right _ h)) (by decide +kernel))
set_option maxRecDepth 20000 in
theorem gL_scale_X0_setScale : GoodIn wsL_scale (wsV RL 27 RX0 yX0_setScale wsX0_setScale) := goodIn_app (goodIn_of _ (by decide +kernel)) ggL_scale_X0_setScale
theorem dL_scale_0 : decode cL_scale 0 = .ok (.aload_n 0, 1) := by decide +kernel
theorem dL_scale_1 : decode cL_scale 1 = .ok (.iload_n 1, 1) := by decide +kernel
theorem dL_scale_2 : decode cL_scale 2 = .ok (.iload_n 2, 1) := by decide +kernel
theorem dL_scale_3 : decode cL_scale 3 = .ok (.invokevirtual 27, 3) := by decide +kernel
theorem dL_scale_6 : decode cL_scale 6 = .ok (.ireturn, 1) := by decide +kernel
theorem dL_scale_7 : decode cL_scale 7 = .ok (.astore_n 3, 1) := by decide +kernel
theorem dL_scale_8 : decode cL_scale 8 = .ok (.ldc 16, 2) := by decide +kernel
theorem dL_scale_10 : decode cL_scale 10 = .ok (.ireturn, 1) := by decide +kernel
set_option maxRecDepth 20000 in
theorem ggL_nudge_X0_setNudging : GoodIn wsL_nudge wsX0_setNudging := goodIn_ca (goodIn_r _ [6, 7, 8, 9, 10, 11, 5, 12, 13, 14, 15, 16, 17, 18, 19, 20, 21, 22, 23, 24, 25, 26] (by decide +kernel) (by decide +kernel)) (goodIn_sub (fun _ h => List.mem_cons_of_mem _ (List.mem_append_right _ h)) (by decide +kernel))
set_option maxRecDepth 20000 in
theorem gL_nudge_X0_setNudging : GoodIn wsL_nudge (wsV RL 30 RX0 yX0_setNudging wsX0_setNudging) := goodIn_app (goodIn_of _ (by decide +kernel)) ggL_nudge_X0_setNudging
theorem dL_nudge_0 : decode cL_nudge 0 = .ok (.aload_n 0, 1) := by decide +kernel
theorem dL_nudge_1 : decode cL_nudge 1 = .ok (.iload_n 1, 1) := by decide +kernel
theorem dL_nudge_2 : decode cL_nudge 2 = .ok (.iload_n 2, 1) := by decide +kernel
theorem dL_nudge_3 : decode cL_nudge 3 = .ok (.iload_n 3, 1) := by decide +kernel
theorem dL_nudge_4 : decode cL_nudge 4 = .ok (.invokevirtual 30, 3) := by decide +kernel
theorem dL_nudge_7 : decode cL_nudge 7 = .ok (.goto 7, 3) := by decide +kernel
theorem dL_nudge_10 : decode cL_nudge 10 = .ok (.astore 4, 2) := by decide +kernel
theorem dL_nudge_12 : decode cL_nudge 12 = .ok (.iconst 0, 1) := by decide +kernel
theorem dL_nudge_13 : decode cL_nudge 13 = .ok (.ireturn, 1) := by decide +kernel
theorem dL_nudge_14 : decode cL_nudge 14 = .ok (.iconst 1, 1) := by decide +kernel
theorem dL_nudge_15 : decode cL_nudge 15 = .ok (.ireturn, 1) := by decide +kernel
set_option maxRecDepth 20000 in
theorem ggL_act_L_low : GoodIn wsL_act wsL_low := goodIn_r _ [5, 6] (by decide +kernel) (by decide +kernel)
set_option maxRecDepth 20000 in
theorem gL_act_L_low : GoodIn wsL_act (va_wsS RL 34 yL_low wsL_low) := goodIn_app (goodIn_of _ (by decide +kernel)) ggL_act_L_low
set_option maxRecDepth 20000 in
theorem ggL_act_L_scale : GoodIn wsL_act wsL_scale := goodIn_ca (goodIn_r _ [9, 10, 1, 11, 12, 13, 14, 15, 16, 17, 18, 19, 20, 21, 22, 23, 24, 25, 26, 27, 28, 29, 30, 31, 32, 33, 34, 35, 36, 37, 38, 39, 141, 142, 143, 144, 145, 146, 147, 148, 149, 150, 151, 152] (by decide +kernel) (by decide +kernel)) (goodIn_sub (fun _ h => List.mem_cons_of_mem _ (List.mem_append_left _ (List.mem_append_right _ h))) (by decide +kernel))
set_option maxRecDepth 20000 in
theorem gL_act_L_scale : GoodIn wsL_act (va_wsS RL 39 yL_scale wsL_scale) := goodIn_app (goodIn_of _ (by decide +kernel)) ggL_act_L_scale
set_option maxRecDepth 20000 in
theorem ggL_act_L_nudge : GoodIn wsL_act wsL_nudge := goodIn_ca (goodIn_r _ [42, 10, 43, 44, 45, 14, 46, 47, 48, 49, 19, 20, 21, 22, 23, 141, 142, 143, 144, 145, 146, 147, 148, 149, 150, 151, 152] (by decide +kernel) (by decide +kernel)) (goodIn_sub (fun _ h => List.mem_cons_of_mem _ (List.mem_append_left _ (List.mem_append_right _ h))) (by decide +kernel))
set_option maxRecDepth 20000 in
theorem gL_act_L_nudge : GoodIn wsL_act (va_wsS RL 43 yL_nudge wsL_nudge) := goodIn_app (goodIn_of _ (by decide +kernel)) ggL_act_L_nudge
set_option maxRecDepth 20000 in
theorem ggL_act_L_rest : GoodIn wsL_act wsL_rest := goodIn_ca (goodIn_r _ [52, 53, 1, 54, 55, 56, 14, 57, 18, 58, 59, 60, 61, 62, 63, 141, 142, 143, 144, 145, 146, 147, 148, 149, 150, 151, 152] (by decide +kernel) (by decide +kernel)) (goodIn_sub (fun _ h => List.mem_cons_of_mem _ (List.mem_append_right _ h)) (by decide +kernel))
set_option maxRecDepth 20000 in
theorem gL_act_L_rest : GoodIn wsL_act (va_wsS RL 47 yL_rest wsL_rest) := goodIn_app (goodIn_of _ (by decide +kernel)) ggL_act_L_rest
set_option maxRecDepth 20000 in
theorem ggL_act_L_slide : GoodIn wsL_act wsL_slide := goodIn_ca (goodIn_ca (goodIn_r _ [66, 53, 10, 1, 67, 68, 69, 14, 70, 71, 59, 60, 61, 62, 63, 72, 73, 74, 19, 20, 21, 22, 23, 75, 76, 38, 77, 78, 79, 80, 81, 18, 58, 82, 83, 84, 85, 86, 87, 88, 89, 90, 91, 92, 93, 48, 94, 95, 96, 97, 98, 99, 100, 101, 28, 29, 30, 31, 16, 17, 32, 33, 34, 35, 36, 37, 39, 102, 103, 104, 105, 106, 107, 108, 109, 110, 111, 112, 113, 49, 114, 115, 116, 117, 118, 119, 120, 47, 121, 122, 123, 124, 125, 126, 24, 25, 26, 27, 127, 128, 129, 141, 142, 143, 144, 145, 146, 147, 148, 149, 150, 151, 152] (by decide +kernel) (by decide +kernel)) (goodIn_sub (fun _ h => List.mem_cons_of_mem _ (List.mem_append_right _ h)) (by decide +kernel))) (goodIn_sub (fun _ h => List.mem_cons_of_mem _ (List.mem_append_left _ (List.mem_append_right _ h))) (by decide +kernel))
set_option maxRecDepth 20000 in
theorem gL_act_L_slide : GoodIn wsL_act (va_wsS RL 50 yL_slide wsL_slide) := goodIn_app (goodIn_of _ (by decide +kernel)) ggL_act_L_slide
set_option maxRecDepth 20000 in
theorem ggL_act_X0_rungOf : GoodIn wsL_act wsX0_rungOf := goodIn_ca (goodIn_r _ [133, 18, 59, 60, 14, 61, 62, 63, 141, 142, 143, 144, 145, 146, 147, 148, 149, 150, 151, 152] (by decide +kernel) (by decide +kernel)) (goodIn_sub (fun _ h => List.mem_cons_of_mem _ (List.mem_append_right _ h)) (by decide +kernel))
set_option maxRecDepth 20000 in
theorem gL_act_X0_rungOf : GoodIn wsL_act (wsV RL 53 RX0 yX0_rungOf wsX0_rungOf) := goodIn_app (goodIn_of _ (by decide +kernel)) ggL_act_X0_rungOf
set_option maxRecDepth 20000 in
theorem ggL_act_L_sing : GoodIn wsL_act wsL_sing := goodIn_ca (goodIn_ca (goodIn_r _ [136, 53, 10, 1, 137, 138, 139, 14, 140, 59, 60, 61, 62, 63, 72, 73, 74, 19, 20, 21, 22, 23, 78, 79, 80, 81, 18, 58, 82, 71, 83, 84, 85, 86, 87, 88, 89, 90, 91, 92, 93, 48, 94, 95, 96, 97, 98, 99, 100, 101, 28, 29, 30, 31, 16, 17, 32, 33, 34, 35, 36, 37, 38, 39, 102, 103, 104, 105, 106, 107, 108, 109, 110, 111, 112, 113, 49, 114, 115, 116, 117, 118, 119, 120, 47, 121, 122, 123, 124, 125, 126, 24, 25, 26, 27, 127, 128, 129, 141, 142, 143, 144, 145, 146, 147, 148, 149, 150, 151, 152] (by decide +kernel) (by decide +kernel)) (goodIn_sub (fun _ h => List.mem_cons_of_mem _ (List.mem_append_right _ h)) (by decide +kernel))) (goodIn_sub (fun _ h => List.mem_cons_of_mem _ (List.mem_append_left _ (List.mem_append_right _ h))) (by decide +kernel))
set_option maxRecDepth 20000 in
theorem gL_act_L_sing : GoodIn wsL_act (va_wsS RL 56 yL_sing wsL_sing) := goodIn_app (goodIn_of _ (by decide +kernel)) ggL_act_L_sing
theorem dL_act_0 : decode cL_act 0 = .ok (.iload_n 1, 1) := by decide +kernel
theorem dL_act_1 : decode cL_act 1 = .ok (.bipush 22, 2) := by decide +kernel
theorem dL_act_3 : decode cL_act 3 = .ok (.ishr, 1) := by decide +kernel
theorem dL_act_4 : decode cL_act 4 = .ok (.bipush 8, 2) := by decide +kernel
theorem dL_act_6 : decode cL_act 6 = .ok (.invokestatic 34, 3) := by decide +kernel
theorem dL_act_9 : decode cL_act 9 = .ok (.ifCond .ne 7, 3) := by decide +kernel
theorem dL_act_12 : decode cL_act 12 = .ok (.iconst 1, 1) := by decide +kernel
theorem dL_act_13 : decode cL_act 13 = .ok (.goto 4, 3) := by decide +kernel
theorem dL_act_16 : decode cL_act 16 = .ok (.iconst 0, 1) := by decide +kernel
theorem dL_act_17 : decode cL_act 17 = .ok (.istore_n 2, 1) := by decide +kernel
theorem dL_act_18 : decode cL_act 18 = .ok (.iload_n 1, 1) := by decide +kernel
theorem dL_act_19 : decode cL_act 19 = .ok (.iconst 4, 1) := by decide +kernel
theorem dL_act_20 : decode cL_act 20 = .ok (.ishr, 1) := by decide +kernel
theorem dL_act_21 : decode cL_act 21 = .ok (.iload_n 2, 1) := by decide +kernel
theorem dL_act_22 : decode cL_act 22 = .ok (.ifCond .eq 8, 3) := by decide +kernel
theorem dL_act_25 : decode cL_act 25 = .ok (.bipush 6, 2) := by decide +kernel
theorem dL_act_27 : decode cL_act 27 = .ok (.goto 4, 3) := by decide +kernel
theorem dL_act_30 : decode cL_act 30 = .ok (.iconst 4, 1) := by decide +kernel
theorem dL_act_31 : decode cL_act 31 = .ok (.invokestatic 34, 3) := by decide +kernel
theorem dL_act_34 : decode cL_act 34 = .ok (.istore_n 3, 1) := by decide +kernel
theorem dL_act_35 : decode cL_act 35 = .ok (.iload_n 1, 1) := by decide +kernel
theorem dL_act_36 : decode cL_act 36 = .ok (.bipush 6, 2) := by decide +kernel
theorem dL_act_38 : decode cL_act 38 = .ok (.ishr, 1) := by decide +kernel
theorem dL_act_39 : decode cL_act 39 = .ok (.iload_n 2, 1) := by decide +kernel
theorem dL_act_40 : decode cL_act 40 = .ok (.ifCond .eq 9, 3) := by decide +kernel
theorem dL_act_43 : decode cL_act 43 = .ok (.sipush 13000, 3) := by decide +kernel
theorem dL_act_46 : decode cL_act 46 = .ok (.goto 6, 3) := by decide +kernel
theorem dL_act_49 : decode cL_act 49 = .ok (.sipush 12001, 3) := by decide +kernel
theorem dL_act_52 : decode cL_act 52 = .ok (.invokestatic 34, 3) := by decide +kernel
theorem dL_act_55 : decode cL_act 55 = .ok (.istore 4, 2) := by decide +kernel
theorem dL_act_57 : decode cL_act 57 = .ok (.iload_n 1, 1) := by decide +kernel
theorem dL_act_58 : decode cL_act 58 = .ok (.bipush 12, 2) := by decide +kernel
theorem dL_act_60 : decode cL_act 60 = .ok (.invokestatic 34, 3) := by decide +kernel
theorem dL_act_63 : decode cL_act 63 = .ok (.tableswitch 274 0 7 #[45, 86, 157, 163, 163, 219, 219, 219], 45) := by decide +kernel
theorem dL_act_108 : decode cL_act 108 = .ok (.aload_n 0, 1) := by decide +kernel
theorem dL_act_109 : decode cL_act 109 = .ok (.iload_n 1, 1) := by decide +kernel
theorem dL_act_110 : decode cL_act 110 = .ok (.bipush 6, 2) := by decide +kernel
theorem dL_act_112 : decode cL_act 112 = .ok (.ishr, 1) := by decide +kernel
theorem dL_act_113 : decode cL_act 113 = .ok (.iload_n 2, 1) := by decide +kernel
theorem dL_act_114 : decode cL_act 114 = .ok (.ifCond .eq 8, 3) := by decide +kernel
theorem dL_act_117 : decode cL_act 117 = .ok (.bipush 14, 2) := by decide +kernel
theorem dL_act_119 : decode cL_act 119 = .ok (.goto 5, 3) := by decide +kernel
theorem dL_act_122 : decode cL_act 122 = .ok (.bipush 12, 2) := by decide +kernel
theorem dL_act_124 : decode cL_act 124 = .ok (.invokestatic 34, 3) := by decide +kernel
theorem dL_act_127 : decode cL_act 127 = .ok (.iload_n 1, 1) := by decide +kernel
theorem dL_act_128 : decode cL_act 128 = .ok (.bipush 9, 2) := by decide +kernel
theorem dL_act_130 : decode cL_act 130 = .ok (.ishr, 1) := by decide +kernel
theorem dL_act_131 : decode cL_act 131 = .ok (.iload_n 2, 1) := by decide +kernel
theorem dL_act_132 : decode cL_act 132 = .ok (.ifCond .eq 8, 3) := by decide +kernel
theorem dL_act_135 : decode cL_act 135 = .ok (.bipush 10, 2) := by decide +kernel
theorem dL_act_137 : decode cL_act 137 = .ok (.goto 5, 3) := by decide +kernel
theorem dL_act_140 : decode cL_act 140 = .ok (.bipush 8, 2) := by decide +kernel
theorem dL_act_142 : decode cL_act 142 = .ok (.invokestatic 34, 3) := by decide +kernel
theorem dL_act_145 : decode cL_act 145 = .ok (.invokestatic 39, 3) := by decide +kernel
theorem dL_act_148 : decode cL_act 148 = .ok (.ireturn, 1) := by decide +kernel
theorem dL_act_149 : decode cL_act 149 = .ok (.aload_n 0, 1) := by decide +kernel
theorem dL_act_150 : decode cL_act 150 = .ok (.iload_n 1, 1) := by decide +kernel
theorem dL_act_151 : decode cL_act 151 = .ok (.iconst 5, 1) := by decide +kernel
theorem dL_act_152 : decode cL_act 152 = .ok (.ishr, 1) := by decide +kernel
theorem dL_act_153 : decode cL_act 153 = .ok (.iload_n 2, 1) := by decide +kernel
theorem dL_act_154 : decode cL_act 154 = .ok (.ifCond .eq 8, 3) := by decide +kernel
theorem dL_act_157 : decode cL_act 157 = .ok (.bipush 120, 2) := by decide +kernel
theorem dL_act_159 : decode cL_act 159 = .ok (.goto 5, 3) := by decide +kernel
theorem dL_act_162 : decode cL_act 162 = .ok (.bipush 101, 2) := by decide +kernel
theorem dL_act_164 : decode cL_act 164 = .ok (.invokestatic 34, 3) := by decide +kernel
theorem dL_act_167 : decode cL_act 167 = .ok (.iload_n 1, 1) := by decide +kernel
theorem dL_act_168 : decode cL_act 168 = .ok (.bipush 8, 2) := by decide +kernel
theorem dL_act_170 : decode cL_act 170 = .ok (.ishr, 1) := by decide +kernel
theorem dL_act_171 : decode cL_act 171 = .ok (.iload_n 2, 1) := by decide +kernel
theorem dL_act_172 : decode cL_act 172 = .ok (.ifCond .eq 9, 3) := by decide +kernel
theorem dL_act_175 : decode cL_act 175 = .ok (.sipush 700, 3) := by decide +kernel
theorem dL_act_178 : decode cL_act 178 = .ok (.goto 6, 3) := by decide +kernel
theorem dL_act_181 : decode cL_act 181 = .ok (.sipush 601, 3) := by decide +kernel
theorem dL_act_184 : decode cL_act 184 = .ok (.invokestatic 34, 3) := by decide +kernel
theorem dL_act_187 : decode cL_act 187 = .ok (.iload_n 1, 1) := by decide +kernel
theorem dL_act_188 : decode cL_act 188 = .ok (.bipush 11, 2) := by decide +kernel
theorem dL_act_190 : decode cL_act 190 = .ok (.ishr, 1) := by decide +kernel
theorem dL_act_191 : decode cL_act 191 = .ok (.iload_n 2, 1) := by decide +kernel
theorem dL_act_192 : decode cL_act 192 = .ok (.ifCond .eq 9, 3) := by decide +kernel
theorem dL_act_195 : decode cL_act 195 = .ok (.sipush 13000, 3) := by decide +kernel
theorem dL_act_198 : decode cL_act 198 = .ok (.goto 6, 3) := by decide +kernel
theorem dL_act_201 : decode cL_act 201 = .ok (.sipush 1500, 3) := by decide +kernel
theorem dL_act_204 : decode cL_act 204 = .ok (.invokestatic 34, 3) := by decide +kernel
theorem dL_act_207 : decode cL_act 207 = .ok (.invokestatic 43, 3) := by decide +kernel
theorem dL_act_210 : decode cL_act 210 = .ok (.ifCond .eq 7, 3) := by decide +kernel
theorem dL_act_213 : decode cL_act 213 = .ok (.iconst 1, 1) := by decide +kernel
theorem dL_act_214 : decode cL_act 214 = .ok (.goto 5, 3) := by decide +kernel
theorem dL_act_217 : decode cL_act 217 = .ok (.ldc 16, 2) := by decide +kernel
theorem dL_act_219 : decode cL_act 219 = .ok (.ireturn, 1) := by decide +kernel
theorem dL_act_220 : decode cL_act 220 = .ok (.aload_n 0, 1) := by decide +kernel
theorem dL_act_221 : decode cL_act 221 = .ok (.iload_n 3, 1) := by decide +kernel
theorem dL_act_222 : decode cL_act 222 = .ok (.invokestatic 47, 3) := by decide +kernel
theorem dL_act_225 : decode cL_act 225 = .ok (.ireturn, 1) := by decide +kernel
theorem dL_act_226 : decode cL_act 226 = .ok (.aload_n 0, 1) := by decide +kernel
theorem dL_act_227 : decode cL_act 227 = .ok (.iload_n 3, 1) := by decide +kernel
theorem dL_act_228 : decode cL_act 228 = .ok (.iload 4, 2) := by decide +kernel
theorem dL_act_230 : decode cL_act 230 = .ok (.iload_n 1, 1) := by decide +kernel
theorem dL_act_231 : decode cL_act 231 = .ok (.bipush 9, 2) := by decide +kernel
theorem dL_act_233 : decode cL_act 233 = .ok (.ishr, 1) := by decide +kernel
theorem dL_act_234 : decode cL_act 234 = .ok (.iload_n 2, 1) := by decide +kernel
theorem dL_act_235 : decode cL_act 235 = .ok (.ifCond .eq 9, 3) := by decide +kernel
theorem dL_act_238 : decode cL_act 238 = .ok (.sipush 13000, 3) := by decide +kernel
theorem dL_act_241 : decode cL_act 241 = .ok (.goto 6, 3) := by decide +kernel
theorem dL_act_244 : decode cL_act 244 = .ok (.sipush 12001, 3) := by decide +kernel
theorem dL_act_247 : decode cL_act 247 = .ok (.invokestatic 34, 3) := by decide +kernel
theorem dL_act_250 : decode cL_act 250 = .ok (.iload_n 1, 1) := by decide +kernel
theorem dL_act_251 : decode cL_act 251 = .ok (.bipush 13, 2) := by decide +kernel
theorem dL_act_253 : decode cL_act 253 = .ok (.ishr, 1) := by decide +kernel
theorem dL_act_254 : decode cL_act 254 = .ok (.iload_n 2, 1) := by decide +kernel
theorem dL_act_255 : decode cL_act 255 = .ok (.ifCond .eq 8, 3) := by decide +kernel
theorem dL_act_258 : decode cL_act 258 = .ok (.bipush 55, 2) := by decide +kernel
theorem dL_act_260 : decode cL_act 260 = .ok (.goto 5, 3) := by decide +kernel
theorem dL_act_263 : decode cL_act 263 = .ok (.bipush 49, 2) := by decide +kernel
theorem dL_act_265 : decode cL_act 265 = .ok (.invokestatic 34, 3) := by decide +kernel
theorem dL_act_268 : decode cL_act 268 = .ok (.iload_n 2, 1) := by decide +kernel
theorem dL_act_269 : decode cL_act 269 = .ok (.ifCond .eq 7, 3) := by decide +kernel
theorem dL_act_272 : decode cL_act 272 = .ok (.iconst 0, 1) := by decide +kernel
theorem dL_act_273 : decode cL_act 273 = .ok (.goto 4, 3) := by decide +kernel
theorem dL_act_276 : decode cL_act 276 = .ok (.iconst 2, 1) := by decide +kernel
theorem dL_act_277 : decode cL_act 277 = .ok (.iadd, 1) := by decide +kernel
theorem dL_act_278 : decode cL_act 278 = .ok (.invokestatic 50, 3) := by decide +kernel
theorem dL_act_281 : decode cL_act 281 = .ok (.ireturn, 1) := by decide +kernel
theorem dL_act_282 : decode cL_act 282 = .ok (.aload_n 0, 1) := by decide +kernel
theorem dL_act_283 : decode cL_act 283 = .ok (.iload_n 3, 1) := by decide +kernel
theorem dL_act_284 : decode cL_act 284 = .ok (.iload_n 2, 1) := by decide +kernel
theorem dL_act_285 : decode cL_act 285 = .ok (.ifCond .ne 46, 3) := by decide +kernel
theorem dL_act_288 : decode cL_act 288 = .ok (.aload_n 0, 1) := by decide +kernel
theorem dL_act_289 : decode cL_act 289 = .ok (.iload_n 3, 1) := by decide +kernel
theorem dL_act_290 : decode cL_act 290 = .ok (.invokevirtual 53, 3) := by decide +kernel
theorem dL_act_293 : decode cL_act 293 = .ok (.bipush 100, 2) := by decide +kernel
theorem dL_act_295 : decode cL_act 295 = .ok (.if_icmp .le 36, 3) := by decide +kernel
theorem dL_act_298 : decode cL_act 298 = .ok (.aload_n 0, 1) := by decide +kernel
theorem dL_act_299 : decode cL_act 299 = .ok (.iload_n 3, 1) := by decide +kernel
theorem dL_act_300 : decode cL_act 300 = .ok (.invokevirtual 53, 3) := by decide +kernel
theorem dL_act_303 : decode cL_act 303 = .ok (.sipush 11900, 3) := by decide +kernel
theorem dL_act_306 : decode cL_act 306 = .ok (.if_icmp .ge 25, 3) := by decide +kernel
theorem dL_act_309 : decode cL_act 309 = .ok (.aload_n 0, 1) := by decide +kernel
theorem dL_act_310 : decode cL_act 310 = .ok (.iload_n 3, 1) := by decide +kernel
theorem dL_act_311 : decode cL_act 311 = .ok (.invokevirtual 53, 3) := by decide +kernel
theorem dL_act_314 : decode cL_act 314 = .ok (.iload_n 1, 1) := by decide +kernel
theorem dL_act_315 : decode cL_act 315 = .ok (.bipush 6, 2) := by decide +kernel
theorem dL_act_317 : decode cL_act 317 = .ok (.ishr, 1) := by decide +kernel
theorem dL_act_318 : decode cL_act 318 = .ok (.sipush 161, 3) := by decide +kernel
theorem dL_act_321 : decode cL_act 321 = .ok (.invokestatic 34, 3) := by decide +kernel
theorem dL_act_324 : decode cL_act 324 = .ok (.iadd, 1) := by decide +kernel
theorem dL_act_325 : decode cL_act 325 = .ok (.bipush 80, 2) := by decide +kernel
theorem dL_act_327 : decode cL_act 327 = .ok (.isub, 1) := by decide +kernel
theorem dL_act_328 : decode cL_act 328 = .ok (.goto 5, 3) := by decide +kernel
theorem dL_act_331 : decode cL_act 331 = .ok (.iload 4, 2) := by decide +kernel
theorem dL_act_333 : decode cL_act 333 = .ok (.invokestatic 56, 3) := by decide +kernel
theorem dL_act_336 : decode cL_act 336 = .ok (.ireturn, 1) := by decide +kernel
theorem dL_act_337 : decode cL_act 337 = .ok (.aload_n 0, 1) := by decide +kernel
theorem dL_act_338 : decode cL_act 338 = .ok (.iload_n 3, 1) := by decide +kernel
theorem dL_act_339 : decode cL_act 339 = .ok (.iload 4, 2) := by decide +kernel
theorem dL_act_341 : decode cL_act 341 = .ok (.invokestatic 56, 3) := by decide +kernel
theorem dL_act_344 : decode cL_act 344 = .ok (.ireturn, 1) := by decide +kernel
set_option maxRecDepth 20000 in
theorem ggL_areAlike_X0_rungs : GoodIn wsL_areAlike wsX0_rungs := goodIn_r _ [5, 6, 7, 8, 4, 9, 10, 11, 12, 13, 14, 15, 16, 17, 18, 19, 20, 21, 22, 23, 131, 132, 133, 134, 135, 136, 137, 138, 139, 140, 141, 142] (by decide +kernel) (by decide +kernel)
set_option maxRecDepth 20000 in
theorem gL_areAlike_X0_rungs : GoodIn wsL_areAlike (wsV RL 58 RX0 yX0_rungs wsX0_rungs) := goodIn_app (goodIn_of _ (by decide +kernel)) ggL_areAlike_X0_rungs
set_option maxRecDepth 20000 in
theorem ggL_areAlike_X0_rung : GoodIn wsL_areAlike wsX0_rung := goodIn_ca (goodIn_r _ [27, 28, 29, 6, 7, 8, 4, 9, 10, 11, 12, 13, 14, 15, 16, 17, 18, 19, 20, 21, 22, 23, 131, 132, 133, 134, 135, 136, 137, 138, 139, 140, 141, 142] (by decide +kernel) (by decide +kernel)) (goodIn_sub (fun _ h => List.mem_cons_of_mem _ (List.mem_append_left _ (List.mem_append_right _ h))) (by decide +kernel))
set_option maxRecDepth 20000 in
theorem gL_areAlike_X0_rung : GoodIn wsL_areAlike (wsV RL 62 RX0 yX0_rung wsX0_rung) := goodIn_app (goodIn_of _ (by decide +kernel)) ggL_areAlike_X0_rung
set_option maxRecDepth 20000 in
theorem ggL_areAlike_X0_inOctaves : GoodIn wsL_areAlike wsX0_inOctaves := goodIn_r _ [33, 34, 35, 36, 4, 37, 131, 132, 133, 134, 135, 136, 137, 138, 139, 140, 141, 142] (by decide +kernel) (by decide +kernel)
set_option maxRecDepth 20000 in
theorem gL_areAlike_X0_inOctaves : GoodIn wsL_areAlike (wsV RL 65 RX0 yX0_inOctaves wsX0_inOctaves) := goodIn_app (goodIn_of _ (by decide +kernel)) ggL_areAlike_X0_inOctaves
set_option maxRecDepth 20000 in
theorem ggL_areAlike_X0_rungOf : GoodIn wsL_areAlike wsX0_rungOf := goodIn_ca (goodIn_r _ [41, 34, 42, 43, 4, 44, 28, 29, 131, 132, 133, 134, 135, 136, 137, 138, 139, 140, 141, 142] (by decide +kernel) (by decide +kernel)) (goodIn_sub (fun _ h => List.mem_cons_of_mem _ (List.mem_append_left _ (List.mem_append_right _ h))) (by decide +kernel))
set_option maxRecDepth 20000 in
theorem gL_areAlike_X0_rungOf : GoodIn wsL_areAlike (wsV RL 53 RX0 yX0_rungOf wsX0_rungOf) := goodIn_app (goodIn_of _ (by decide +kernel)) ggL_areAlike_X0_rungOf
set_option maxRecDepth 20000 in
theorem ggL_areAlike_X0_nudgeOf : GoodIn wsL_areAlike wsX0_nudgeOf := goodIn_ca (goodIn_r _ [48, 49, 42, 43, 4, 44, 28, 29, 131, 132, 133, 134, 135, 136, 137, 138, 139, 140, 141, 142] (by decide +kernel) (by decide +kernel)) (goodIn_sub (fun _ h => List.mem_cons_of_mem _ (List.mem_append_left _ (List.mem_append_right _ h))) (by decide +kernel))
set_option maxRecDepth 20000 in
theorem gL_areAlike_X0_nudgeOf : GoodIn wsL_areAlike (wsV RL 68 RX0 yX0_nudgeOf wsX0_nudgeOf) := goodIn_app (goodIn_of _ (by decide +kernel)) ggL_areAlike_X0_nudgeOf
set_option maxRecDepth 20000 in
theorem ggL_areAlike_X0_framesOf : GoodIn wsL_areAlike wsX0_framesOf := goodIn_ca (goodIn_r _ [53, 54, 42, 43, 4, 44, 28, 29, 131, 132, 133, 134, 135, 136, 137, 138, 139, 140, 141, 142] (by decide +kernel) (by decide +kernel)) (goodIn_sub (fun _ h => List.mem_cons_of_mem _ (List.mem_append_left _ (List.mem_append_right _ h))) (by decide +kernel))
set_option maxRecDepth 20000 in
theorem gL_areAlike_X0_framesOf : GoodIn wsL_areAlike (wsV RL 71 RX0 yX0_framesOf wsX0_framesOf) := goodIn_app (goodIn_of _ (by decide +kernel)) ggL_areAlike_X0_framesOf
set_option maxRecDepth 20000 in
theorem ggL_areAlike_X0_changesOf : GoodIn wsL_areAlike wsX0_changesOf := goodIn_ca (goodIn_r _ [58, 59, 42, 43, 4, 44, 28, 29, 131, 132, 133, 134, 135, 136, 137, 138, 139, 140, 141, 142] (by decide +kernel) (by decide +kernel)) (goodIn_sub (fun _ h => List.mem_cons_of_mem _ (List.mem_append_left _ (List.mem_append_right _ h))) (by decide +kernel))
set_option maxRecDepth 20000 in
theorem gL_areAlike_X0_changesOf : GoodIn wsL_areAlike (wsV RL 74 RX0 yX0_changesOf wsX0_changesOf) := goodIn_app (goodIn_of _ (by decide +kernel)) ggL_areAlike_X0_changesOf
set_option maxRecDepth 20000 in
theorem ggL_areAlike_X0_leapsOf : GoodIn wsL_areAlike wsX0_leapsOf := goodIn_ca (goodIn_r _ [63, 64, 42, 43, 4, 44, 28, 29, 131, 132, 133, 134, 135, 136, 137, 138, 139, 140, 141, 142] (by decide +kernel) (by decide +kernel)) (goodIn_sub (fun _ h => List.mem_cons_of_mem _ (List.mem_append_left _ (List.mem_append_right _ h))) (by decide +kernel))
set_option maxRecDepth 20000 in
theorem gL_areAlike_X0_leapsOf : GoodIn wsL_areAlike (wsV RL 77 RX0 yX0_leapsOf wsX0_leapsOf) := goodIn_app (goodIn_of _ (by decide +kernel)) ggL_areAlike_X0_leapsOf
set_option maxRecDepth 20000 in
theorem ggL_areAlike_X0_cleanOf : GoodIn wsL_areAlike wsX0_cleanOf := goodIn_ca (goodIn_r _ [68, 69, 42, 43, 4, 44, 28, 29, 131, 132, 133, 134, 135, 136, 137, 138, 139, 140, 141, 142] (by decide +kernel) (by decide +kernel)) (goodIn_sub (fun _ h => List.mem_cons_of_mem _ (List.mem_append_left _ (List.mem_append_right _ h))) (by decide +kernel))
set_option maxRecDepth 20000 in
theorem gL_areAlike_X0_cleanOf : GoodIn wsL_areAlike (wsV RL 80 RX0 yX0_cleanOf wsX0_cleanOf) := goodIn_app (goodIn_of _ (by decide +kernel)) ggL_areAlike_X0_cleanOf
set_option maxRecDepth 20000 in
theorem ggL_areAlike_X0_framesToRung : GoodIn wsL_areAlike wsX0_framesToRung := goodIn_ca (goodIn_ca (goodIn_r _ [73, 34, 42, 43, 4, 44, 28, 29, 74, 75, 76, 77, 78, 79, 80, 81, 82, 83, 84, 85, 86, 87, 88, 89, 90, 91, 92, 93, 94, 95, 96, 97, 98, 10, 11, 12, 13, 14, 15, 16, 17, 18, 19, 20, 21, 22, 23, 99, 100, 101, 102, 103, 104, 105, 106, 49, 107, 108, 109, 110, 111, 112, 113, 114, 115, 116, 117, 118, 119, 120, 121, 122, 123, 124, 125, 131, 132, 133, 134, 135, 136, 137, 138, 139, 140, 141, 142] (by decide +kernel) (by decide +kernel)) (goodIn_sub (fun _ h => List.mem_cons_of_mem _ (List.mem_append_left _ (List.mem_append_right _ h))) (by decide +kernel))) (goodIn_sub (fun _ h => List.mem_cons_of_mem _ (List.mem_append_right _ h)) (by decide +kernel))
set_option maxRecDepth 20000 in
theorem gL_areAlike_X0_framesToRung : GoodIn wsL_areAlike (wsV RL 83 RX0 yX0_framesToRung wsX0_framesToRung) := goodIn_app (goodIn_of _ (by decide +kernel)) ggL_areAlike_X0_framesToRung
set_option maxRecDepth 20000 in
theorem ggL_areAlike_X0_sung : GoodIn wsL_areAlike wsX0_sung := goodIn_ca (goodIn_r _ [129, 28, 29, 130, 131, 132, 133, 134, 135, 136, 137, 138, 139, 140, 141, 142] (by decide +kernel) (by decide +kernel)) (goodIn_sub (fun _ h => List.mem_cons_of_mem _ (List.mem_append_left _ (List.mem_append_right _ h))) (by decide +kernel))
set_option maxRecDepth 20000 in
theorem gL_areAlike_X0_sung : GoodIn wsL_areAlike (wsV RL 86 RX0 yX0_sung wsX0_sung) := goodIn_app (goodIn_of _ (by decide +kernel)) ggL_areAlike_X0_sung
theorem dL_areAlike_0 : decode cL_areAlike 0 = .ok (.aload_n 0, 1) := by decide +kernel
theorem dL_areAlike_1 : decode cL_areAlike 1 = .ok (.invokevirtual 58, 3) := by decide +kernel
theorem dL_areAlike_4 : decode cL_areAlike 4 = .ok (.aload_n 1, 1) := by decide +kernel
theorem dL_areAlike_5 : decode cL_areAlike 5 = .ok (.invokevirtual 58, 3) := by decide +kernel
theorem dL_areAlike_8 : decode cL_areAlike 8 = .ok (.if_icmp .ne 57, 3) := by decide +kernel
theorem dL_areAlike_11 : decode cL_areAlike 11 = .ok (.aload_n 0, 1) := by decide +kernel
theorem dL_areAlike_12 : decode cL_areAlike 12 = .ok (.iconst 0, 1) := by decide +kernel
theorem dL_areAlike_13 : decode cL_areAlike 13 = .ok (.invokevirtual 62, 3) := by decide +kernel
theorem dL_areAlike_16 : decode cL_areAlike 16 = .ok (.aload_n 1, 1) := by decide +kernel
theorem dL_areAlike_17 : decode cL_areAlike 17 = .ok (.iconst 0, 1) := by decide +kernel
theorem dL_areAlike_18 : decode cL_areAlike 18 = .ok (.invokevirtual 62, 3) := by decide +kernel
theorem dL_areAlike_21 : decode cL_areAlike 21 = .ok (.if_icmp .ne 44, 3) := by decide +kernel
theorem dL_areAlike_24 : decode cL_areAlike 24 = .ok (.aload_n 0, 1) := by decide +kernel
theorem dL_areAlike_25 : decode cL_areAlike 25 = .ok (.iconst 1, 1) := by decide +kernel
theorem dL_areAlike_26 : decode cL_areAlike 26 = .ok (.invokevirtual 62, 3) := by decide +kernel
theorem dL_areAlike_29 : decode cL_areAlike 29 = .ok (.aload_n 1, 1) := by decide +kernel
theorem dL_areAlike_30 : decode cL_areAlike 30 = .ok (.iconst 1, 1) := by decide +kernel
theorem dL_areAlike_31 : decode cL_areAlike 31 = .ok (.invokevirtual 62, 3) := by decide +kernel
theorem dL_areAlike_34 : decode cL_areAlike 34 = .ok (.if_icmp .ne 31, 3) := by decide +kernel
theorem dL_areAlike_37 : decode cL_areAlike 37 = .ok (.aload_n 0, 1) := by decide +kernel
theorem dL_areAlike_38 : decode cL_areAlike 38 = .ok (.iconst 3, 1) := by decide +kernel
theorem dL_areAlike_39 : decode cL_areAlike 39 = .ok (.invokevirtual 62, 3) := by decide +kernel
theorem dL_areAlike_42 : decode cL_areAlike 42 = .ok (.aload_n 1, 1) := by decide +kernel
theorem dL_areAlike_43 : decode cL_areAlike 43 = .ok (.iconst 3, 1) := by decide +kernel
theorem dL_areAlike_44 : decode cL_areAlike 44 = .ok (.invokevirtual 62, 3) := by decide +kernel
theorem dL_areAlike_47 : decode cL_areAlike 47 = .ok (.if_icmp .ne 18, 3) := by decide +kernel
theorem dL_areAlike_50 : decode cL_areAlike 50 = .ok (.aload_n 0, 1) := by decide +kernel
theorem dL_areAlike_51 : decode cL_areAlike 51 = .ok (.invokevirtual 65, 3) := by decide +kernel
theorem dL_areAlike_54 : decode cL_areAlike 54 = .ok (.aload_n 1, 1) := by decide +kernel
theorem dL_areAlike_55 : decode cL_areAlike 55 = .ok (.invokevirtual 65, 3) := by decide +kernel
theorem dL_areAlike_58 : decode cL_areAlike 58 = .ok (.if_icmp .ne 7, 3) := by decide +kernel
theorem dL_areAlike_61 : decode cL_areAlike 61 = .ok (.iconst 1, 1) := by decide +kernel
theorem dL_areAlike_62 : decode cL_areAlike 62 = .ok (.goto 4, 3) := by decide +kernel
theorem dL_areAlike_65 : decode cL_areAlike 65 = .ok (.iconst 0, 1) := by decide +kernel
theorem dL_areAlike_66 : decode cL_areAlike 66 = .ok (.istore_n 2, 1) := by decide +kernel
theorem dL_areAlike_67 : decode cL_areAlike 67 = .ok (.iconst 0, 1) := by decide +kernel
theorem dL_areAlike_68 : decode cL_areAlike 68 = .ok (.istore_n 3, 1) := by decide +kernel
theorem dL_areAlike_69 : decode cL_areAlike 69 = .ok (.iload_n 3, 1) := by decide +kernel
theorem dL_areAlike_70 : decode cL_areAlike 70 = .ok (.iconst 4, 1) := by decide +kernel
theorem dL_areAlike_71 : decode cL_areAlike 71 = .ok (.if_icmp .ge 116, 3) := by decide +kernel
theorem dL_areAlike_74 : decode cL_areAlike 74 = .ok (.iload_n 2, 1) := by decide +kernel
theorem dL_areAlike_75 : decode cL_areAlike 75 = .ok (.ifCond .eq 104, 3) := by decide +kernel
theorem dL_areAlike_78 : decode cL_areAlike 78 = .ok (.aload_n 0, 1) := by decide +kernel
theorem dL_areAlike_79 : decode cL_areAlike 79 = .ok (.iload_n 3, 1) := by decide +kernel
theorem dL_areAlike_80 : decode cL_areAlike 80 = .ok (.invokevirtual 53, 3) := by decide +kernel
theorem dL_areAlike_83 : decode cL_areAlike 83 = .ok (.aload_n 1, 1) := by decide +kernel
theorem dL_areAlike_84 : decode cL_areAlike 84 = .ok (.iload_n 3, 1) := by decide +kernel
theorem dL_areAlike_85 : decode cL_areAlike 85 = .ok (.invokevirtual 53, 3) := by decide +kernel
theorem dL_areAlike_88 : decode cL_areAlike 88 = .ok (.if_icmp .ne 91, 3) := by decide +kernel
theorem dL_areAlike_91 : decode cL_areAlike 91 = .ok (.aload_n 0, 1) := by decide +kernel
theorem dL_areAlike_92 : decode cL_areAlike 92 = .ok (.iload_n 3, 1) := by decide +kernel
theorem dL_areAlike_93 : decode cL_areAlike 93 = .ok (.invokevirtual 68, 3) := by decide +kernel
theorem dL_areAlike_96 : decode cL_areAlike 96 = .ok (.aload_n 1, 1) := by decide +kernel
theorem dL_areAlike_97 : decode cL_areAlike 97 = .ok (.iload_n 3, 1) := by decide +kernel
theorem dL_areAlike_98 : decode cL_areAlike 98 = .ok (.invokevirtual 68, 3) := by decide +kernel
theorem dL_areAlike_101 : decode cL_areAlike 101 = .ok (.if_icmp .ne 78, 3) := by decide +kernel
theorem dL_areAlike_104 : decode cL_areAlike 104 = .ok (.aload_n 0, 1) := by decide +kernel
theorem dL_areAlike_105 : decode cL_areAlike 105 = .ok (.iload_n 3, 1) := by decide +kernel
theorem dL_areAlike_106 : decode cL_areAlike 106 = .ok (.invokevirtual 71, 3) := by decide +kernel
theorem dL_areAlike_109 : decode cL_areAlike 109 = .ok (.aload_n 1, 1) := by decide +kernel
theorem dL_areAlike_110 : decode cL_areAlike 110 = .ok (.iload_n 3, 1) := by decide +kernel
theorem dL_areAlike_111 : decode cL_areAlike 111 = .ok (.invokevirtual 71, 3) := by decide +kernel
theorem dL_areAlike_114 : decode cL_areAlike 114 = .ok (.if_icmp .ne 65, 3) := by decide +kernel
theorem dL_areAlike_117 : decode cL_areAlike 117 = .ok (.aload_n 0, 1) := by decide +kernel
theorem dL_areAlike_118 : decode cL_areAlike 118 = .ok (.iload_n 3, 1) := by decide +kernel
theorem dL_areAlike_119 : decode cL_areAlike 119 = .ok (.invokevirtual 74, 3) := by decide +kernel
theorem dL_areAlike_122 : decode cL_areAlike 122 = .ok (.aload_n 1, 1) := by decide +kernel
theorem dL_areAlike_123 : decode cL_areAlike 123 = .ok (.iload_n 3, 1) := by decide +kernel
theorem dL_areAlike_124 : decode cL_areAlike 124 = .ok (.invokevirtual 74, 3) := by decide +kernel
theorem dL_areAlike_127 : decode cL_areAlike 127 = .ok (.if_icmp .ne 52, 3) := by decide +kernel
theorem dL_areAlike_130 : decode cL_areAlike 130 = .ok (.aload_n 0, 1) := by decide +kernel
theorem dL_areAlike_131 : decode cL_areAlike 131 = .ok (.iload_n 3, 1) := by decide +kernel
theorem dL_areAlike_132 : decode cL_areAlike 132 = .ok (.invokevirtual 77, 3) := by decide +kernel
theorem dL_areAlike_135 : decode cL_areAlike 135 = .ok (.aload_n 1, 1) := by decide +kernel
theorem dL_areAlike_136 : decode cL_areAlike 136 = .ok (.iload_n 3, 1) := by decide +kernel
theorem dL_areAlike_137 : decode cL_areAlike 137 = .ok (.invokevirtual 77, 3) := by decide +kernel
theorem dL_areAlike_140 : decode cL_areAlike 140 = .ok (.if_icmp .ne 39, 3) := by decide +kernel
theorem dL_areAlike_143 : decode cL_areAlike 143 = .ok (.aload_n 0, 1) := by decide +kernel
theorem dL_areAlike_144 : decode cL_areAlike 144 = .ok (.iload_n 3, 1) := by decide +kernel
theorem dL_areAlike_145 : decode cL_areAlike 145 = .ok (.invokevirtual 80, 3) := by decide +kernel
theorem dL_areAlike_148 : decode cL_areAlike 148 = .ok (.aload_n 1, 1) := by decide +kernel
theorem dL_areAlike_149 : decode cL_areAlike 149 = .ok (.iload_n 3, 1) := by decide +kernel
theorem dL_areAlike_150 : decode cL_areAlike 150 = .ok (.invokevirtual 80, 3) := by decide +kernel
theorem dL_areAlike_153 : decode cL_areAlike 153 = .ok (.if_icmp .ne 26, 3) := by decide +kernel
theorem dL_areAlike_156 : decode cL_areAlike 156 = .ok (.aload_n 0, 1) := by decide +kernel
theorem dL_areAlike_157 : decode cL_areAlike 157 = .ok (.iload_n 3, 1) := by decide +kernel
theorem dL_areAlike_158 : decode cL_areAlike 158 = .ok (.sipush 5555, 3) := by decide +kernel
theorem dL_areAlike_161 : decode cL_areAlike 161 = .ok (.invokevirtual 83, 3) := by decide +kernel
theorem dL_areAlike_164 : decode cL_areAlike 164 = .ok (.aload_n 1, 1) := by decide +kernel
theorem dL_areAlike_165 : decode cL_areAlike 165 = .ok (.iload_n 3, 1) := by decide +kernel
theorem dL_areAlike_166 : decode cL_areAlike 166 = .ok (.sipush 5555, 3) := by decide +kernel
theorem dL_areAlike_169 : decode cL_areAlike 169 = .ok (.invokevirtual 83, 3) := by decide +kernel
theorem dL_areAlike_172 : decode cL_areAlike 172 = .ok (.if_icmp .ne 7, 3) := by decide +kernel
theorem dL_areAlike_175 : decode cL_areAlike 175 = .ok (.iconst 1, 1) := by decide +kernel
theorem dL_areAlike_176 : decode cL_areAlike 176 = .ok (.goto 4, 3) := by decide +kernel
theorem dL_areAlike_179 : decode cL_areAlike 179 = .ok (.iconst 0, 1) := by decide +kernel
theorem dL_areAlike_180 : decode cL_areAlike 180 = .ok (.istore_n 2, 1) := by decide +kernel
theorem dL_areAlike_181 : decode cL_areAlike 181 = .ok (.iinc 3 1, 3) := by decide +kernel
theorem dL_areAlike_184 : decode cL_areAlike 184 = .ok (.goto (-115), 3) := by decide +kernel
theorem dL_areAlike_187 : decode cL_areAlike 187 = .ok (.iconst 0, 1) := by decide +kernel
theorem dL_areAlike_188 : decode cL_areAlike 188 = .ok (.istore_n 3, 1) := by decide +kernel
theorem dL_areAlike_189 : decode cL_areAlike 189 = .ok (.iload_n 3, 1) := by decide +kernel
theorem dL_areAlike_190 : decode cL_areAlike 190 = .ok (.bipush 12, 2) := by decide +kernel
theorem dL_areAlike_192 : decode cL_areAlike 192 = .ok (.if_icmp .ge 32, 3) := by decide +kernel
theorem dL_areAlike_195 : decode cL_areAlike 195 = .ok (.iload_n 2, 1) := by decide +kernel
theorem dL_areAlike_196 : decode cL_areAlike 196 = .ok (.ifCond .eq 20, 3) := by decide +kernel
theorem dL_areAlike_199 : decode cL_areAlike 199 = .ok (.aload_n 0, 1) := by decide +kernel
theorem dL_areAlike_200 : decode cL_areAlike 200 = .ok (.iload_n 3, 1) := by decide +kernel
theorem dL_areAlike_201 : decode cL_areAlike 201 = .ok (.invokevirtual 86, 3) := by decide +kernel
theorem dL_areAlike_204 : decode cL_areAlike 204 = .ok (.aload_n 1, 1) := by decide +kernel
theorem dL_areAlike_205 : decode cL_areAlike 205 = .ok (.iload_n 3, 1) := by decide +kernel
theorem dL_areAlike_206 : decode cL_areAlike 206 = .ok (.invokevirtual 86, 3) := by decide +kernel
theorem dL_areAlike_209 : decode cL_areAlike 209 = .ok (.if_icmp .ne 7, 3) := by decide +kernel
theorem dL_areAlike_212 : decode cL_areAlike 212 = .ok (.iconst 1, 1) := by decide +kernel
theorem dL_areAlike_213 : decode cL_areAlike 213 = .ok (.goto 4, 3) := by decide +kernel
theorem dL_areAlike_216 : decode cL_areAlike 216 = .ok (.iconst 0, 1) := by decide +kernel
theorem dL_areAlike_217 : decode cL_areAlike 217 = .ok (.istore_n 2, 1) := by decide +kernel
theorem dL_areAlike_218 : decode cL_areAlike 218 = .ok (.iinc 3 1, 3) := by decide +kernel
theorem dL_areAlike_221 : decode cL_areAlike 221 = .ok (.goto (-32), 3) := by decide +kernel
theorem dL_areAlike_224 : decode cL_areAlike 224 = .ok (.iload_n 2, 1) := by decide +kernel
theorem dL_areAlike_225 : decode cL_areAlike 225 = .ok (.ireturn, 1) := by decide +kernel
set_option maxRecDepth 20000 in
theorem ggL_areWrensSo_X0_rungOf : GoodIn wsL_areWrensSo wsX0_rungOf := goodIn_ca (goodIn_r _ [5, 6, 7, 8, 4, 9, 10, 11, 68, 69, 70, 71, 72, 73, 74, 75, 76, 77, 78, 79] (by decide +kernel) (by decide +kernel)) (goodIn_sub (fun _ h => List.mem_cons_of_mem _ (List.mem_append_left _ (List.mem_append_right _ h))) (by decide +kernel))
set_option maxRecDepth 20000 in
theorem gL_areWrensSo_X0_rungOf : GoodIn wsL_areWrensSo (wsV RL 53 RX0 yX0_rungOf wsX0_rungOf) := goodIn_app (goodIn_of _ (by decide +kernel)) ggL_areWrensSo_X0_rungOf
set_option maxRecDepth 20000 in
theorem ggL_areWrensSo_X0_framesOf : GoodIn wsL_areWrensSo wsX0_framesOf := goodIn_ca (goodIn_r _ [15, 16, 7, 8, 4, 9, 10, 11, 68, 69, 70, 71, 72, 73, 74, 75, 76, 77, 78, 79] (by decide +kernel) (by decide +kernel)) (goodIn_sub (fun _ h => List.mem_cons_of_mem _ (List.mem_append_left _ (List.mem_append_right _ h))) (by decide +kernel))
set_option maxRecDepth 20000 in
theorem gL_areWrensSo_X0_framesOf : GoodIn wsL_areWrensSo (wsV RL 71 RX0 yX0_framesOf wsX0_framesOf) := goodIn_app (goodIn_of _ (by decide +kernel)) ggL_areWrensSo_X0_framesOf
set_option maxRecDepth 20000 in
theorem ggL_areWrensSo_X0_stepOf : GoodIn wsL_areWrensSo wsX0_stepOf := goodIn_ca (goodIn_r _ [20, 21, 22, 4, 23, 24, 25, 26, 27, 28, 29, 30, 31, 32, 33, 34, 35, 36, 37, 38, 39, 40, 41, 42, 68, 69, 70, 71, 72, 73, 74, 75, 76, 77, 78, 79] (by decide +kernel) (by decide +kernel)) (goodIn_sub (fun _ h => List.mem_cons_of_mem _ (List.mem_append_right _ h)) (by decide +kernel))
set_option maxRecDepth 20000 in
theorem gL_areWrensSo_X0_stepOf : GoodIn wsL_areWrensSo (wsV RL 89 RX0 yX0_stepOf wsX0_stepOf) := goodIn_app (goodIn_of _ (by decide +kernel)) ggL_areWrensSo_X0_stepOf
set_option maxRecDepth 20000 in
theorem ggL_areWrensSo_X0_leapsOf : GoodIn wsL_areWrensSo wsX0_leapsOf := goodIn_ca (goodIn_r _ [46, 47, 7, 8, 4, 9, 10, 11, 68, 69, 70, 71, 72, 73, 74, 75, 76, 77, 78, 79] (by decide +kernel) (by decide +kernel)) (goodIn_sub (fun _ h => List.mem_cons_of_mem _ (List.mem_append_left _ (List.mem_append_right _ h))) (by decide +kernel))
set_option maxRecDepth 20000 in
theorem gL_areWrensSo_X0_leapsOf : GoodIn wsL_areWrensSo (wsV RL 77 RX0 yX0_leapsOf wsX0_leapsOf) := goodIn_app (goodIn_of _ (by decide +kernel)) ggL_areWrensSo_X0_leapsOf
set_option maxRecDepth 20000 in
theorem ggL_areWrensSo_X0_changesOf : GoodIn wsL_areWrensSo wsX0_changesOf := goodIn_ca (goodIn_r _ [51, 52, 7, 8, 4, 9, 10, 11, 68, 69, 70, 71, 72, 73, 74, 75, 76, 77, 78, 79] (by decide +kernel) (by decide +kernel)) (goodIn_sub (fun _ h => List.mem_cons_of_mem _ (List.mem_append_left _ (List.mem_append_right _ h))) (by decide +kernel))
set_option maxRecDepth 20000 in
theorem gL_areWrensSo_X0_changesOf : GoodIn wsL_areWrensSo (wsV RL 74 RX0 yX0_changesOf wsX0_changesOf) := goodIn_app (goodIn_of _ (by decide +kernel)) ggL_areWrensSo_X0_changesOf
set_option maxRecDepth 20000 in
theorem ggL_areWrensSo_X0_cleanOf : GoodIn wsL_areWrensSo wsX0_cleanOf := goodIn_ca (goodIn_r _ [56, 57, 7, 8, 4, 9, 10, 11, 68, 69, 70, 71, 72, 73, 74, 75, 76, 77, 78, 79] (by decide +kernel) (by decide +kernel)) (goodIn_sub (fun _ h => List.mem_cons_of_mem _ (List.mem_append_left _ (List.mem_append_right _ h))) (by decide +kernel))
set_option maxRecDepth 20000 in
theorem gL_areWrensSo_X0_cleanOf : GoodIn wsL_areWrensSo (wsV RL 80 RX0 yX0_cleanOf wsX0_cleanOf) := goodIn_app (goodIn_of _ (by decide +kernel)) ggL_areWrensSo_X0_cleanOf
set_option maxRecDepth 20000 in
theorem ggL_areWrensSo_X0_nudgeOf : GoodIn wsL_areWrensSo wsX0_nudgeOf := goodIn_ca (goodIn_r _ [61, 62, 7, 8, 4, 9, 10, 11, 68, 69, 70, 71, 72, 73, 74, 75, 76, 77, 78, 79] (by decide +kernel) (by decide +kernel)) (goodIn_sub (fun _ h => List.mem_cons_of_mem _ (List.mem_append_left _ (List.mem_append_right _ h))) (by decide +kernel))
set_option maxRecDepth 20000 in
theorem gL_areWrensSo_X0_nudgeOf : GoodIn wsL_areWrensSo (wsV RL 68 RX0 yX0_nudgeOf wsX0_nudgeOf) := goodIn_app (goodIn_of _ (by decide +kernel)) ggL_areWrensSo_X0_nudgeOf
set_option maxRecDepth 20000 in
theorem ggL_areWrensSo_X0_sung : GoodIn wsL_areWrensSo wsX0_sung := goodIn_ca (goodIn_r _ [66, 10, 11, 67, 68, 69, 70, 71, 72, 73, 74, 75, 76, 77, 78, 79] (by decide +kernel) (by decide +kernel)) (goodIn_sub (fun _ h => List.mem_cons_of_mem _ (List.mem_append_left _ (List.mem_append_right _ h))) (by decide +kernel))
set_option maxRecDepth 20000 in
theorem gL_areWrensSo_X0_sung : GoodIn wsL_areWrensSo (wsV RL 86 RX0 yX0_sung wsX0_sung) := goodIn_app (goodIn_of _ (by decide +kernel)) ggL_areWrensSo_X0_sung
theorem dL_areWrensSo_0 : decode cL_areWrensSo 0 = .ok (.iconst 0, 1) := by decide +kernel
theorem dL_areWrensSo_1 : decode cL_areWrensSo 1 = .ok (.istore_n 1, 1) := by decide +kernel
theorem dL_areWrensSo_2 : decode cL_areWrensSo 2 = .ok (.iconst 0, 1) := by decide +kernel
theorem dL_areWrensSo_3 : decode cL_areWrensSo 3 = .ok (.istore_n 2, 1) := by decide +kernel
theorem dL_areWrensSo_4 : decode cL_areWrensSo 4 = .ok (.iconst 0, 1) := by decide +kernel
theorem dL_areWrensSo_5 : decode cL_areWrensSo 5 = .ok (.istore_n 3, 1) := by decide +kernel
theorem dL_areWrensSo_6 : decode cL_areWrensSo 6 = .ok (.iload_n 3, 1) := by decide +kernel
theorem dL_areWrensSo_7 : decode cL_areWrensSo 7 = .ok (.iconst 4, 1) := by decide +kernel
theorem dL_areWrensSo_8 : decode cL_areWrensSo 8 = .ok (.if_icmp .ge 107, 3) := by decide +kernel
theorem dL_areWrensSo_11 : decode cL_areWrensSo 11 = .ok (.aload_n 0, 1) := by decide +kernel
theorem dL_areWrensSo_12 : decode cL_areWrensSo 12 = .ok (.iload_n 3, 1) := by decide +kernel
theorem dL_areWrensSo_13 : decode cL_areWrensSo 13 = .ok (.invokevirtual 53, 3) := by decide +kernel
theorem dL_areWrensSo_16 : decode cL_areWrensSo 16 = .ok (.istore 4, 2) := by decide +kernel
theorem dL_areWrensSo_18 : decode cL_areWrensSo 18 = .ok (.iload_n 1, 1) := by decide +kernel
theorem dL_areWrensSo_19 : decode cL_areWrensSo 19 = .ok (.aload_n 0, 1) := by decide +kernel
theorem dL_areWrensSo_20 : decode cL_areWrensSo 20 = .ok (.iload_n 3, 1) := by decide +kernel
theorem dL_areWrensSo_21 : decode cL_areWrensSo 21 = .ok (.invokevirtual 71, 3) := by decide +kernel
theorem dL_areWrensSo_24 : decode cL_areWrensSo 24 = .ok (.iadd, 1) := by decide +kernel
theorem dL_areWrensSo_25 : decode cL_areWrensSo 25 = .ok (.istore_n 1, 1) := by decide +kernel
theorem dL_areWrensSo_26 : decode cL_areWrensSo 26 = .ok (.iload 4, 2) := by decide +kernel
theorem dL_areWrensSo_28 : decode cL_areWrensSo 28 = .ok (.iconst (-1), 1) := by decide +kernel
theorem dL_areWrensSo_29 : decode cL_areWrensSo 29 = .ok (.if_icmp .lt 78, 3) := by decide +kernel
theorem dL_areWrensSo_32 : decode cL_areWrensSo 32 = .ok (.iload 4, 2) := by decide +kernel
theorem dL_areWrensSo_34 : decode cL_areWrensSo 34 = .ok (.ifCond .lt 12, 3) := by decide +kernel
theorem dL_areWrensSo_37 : decode cL_areWrensSo 37 = .ok (.aload_n 0, 1) := by decide +kernel
theorem dL_areWrensSo_38 : decode cL_areWrensSo 38 = .ok (.iload 4, 2) := by decide +kernel
theorem dL_areWrensSo_40 : decode cL_areWrensSo 40 = .ok (.invokevirtual 89, 3) := by decide +kernel
theorem dL_areWrensSo_43 : decode cL_areWrensSo 43 = .ok (.ifCond .lt 64, 3) := by decide +kernel
theorem dL_areWrensSo_46 : decode cL_areWrensSo 46 = .ok (.aload_n 0, 1) := by decide +kernel
theorem dL_areWrensSo_47 : decode cL_areWrensSo 47 = .ok (.iload_n 3, 1) := by decide +kernel
theorem dL_areWrensSo_48 : decode cL_areWrensSo 48 = .ok (.invokevirtual 77, 3) := by decide +kernel
theorem dL_areWrensSo_51 : decode cL_areWrensSo 51 = .ok (.aload_n 0, 1) := by decide +kernel
theorem dL_areWrensSo_52 : decode cL_areWrensSo 52 = .ok (.iload_n 3, 1) := by decide +kernel
theorem dL_areWrensSo_53 : decode cL_areWrensSo 53 = .ok (.invokevirtual 74, 3) := by decide +kernel
theorem dL_areWrensSo_56 : decode cL_areWrensSo 56 = .ok (.if_icmp .gt 51, 3) := by decide +kernel
theorem dL_areWrensSo_59 : decode cL_areWrensSo 59 = .ok (.aload_n 0, 1) := by decide +kernel
theorem dL_areWrensSo_60 : decode cL_areWrensSo 60 = .ok (.iload_n 3, 1) := by decide +kernel
theorem dL_areWrensSo_61 : decode cL_areWrensSo 61 = .ok (.invokevirtual 74, 3) := by decide +kernel
theorem dL_areWrensSo_64 : decode cL_areWrensSo 64 = .ok (.aload_n 0, 1) := by decide +kernel
theorem dL_areWrensSo_65 : decode cL_areWrensSo 65 = .ok (.iload_n 3, 1) := by decide +kernel
theorem dL_areWrensSo_66 : decode cL_areWrensSo 66 = .ok (.invokevirtual 71, 3) := by decide +kernel
theorem dL_areWrensSo_69 : decode cL_areWrensSo 69 = .ok (.if_icmp .gt 38, 3) := by decide +kernel
theorem dL_areWrensSo_72 : decode cL_areWrensSo 72 = .ok (.aload_n 0, 1) := by decide +kernel
theorem dL_areWrensSo_73 : decode cL_areWrensSo 73 = .ok (.iload_n 3, 1) := by decide +kernel
theorem dL_areWrensSo_74 : decode cL_areWrensSo 74 = .ok (.invokevirtual 80, 3) := by decide +kernel
theorem dL_areWrensSo_77 : decode cL_areWrensSo 77 = .ok (.aload_n 0, 1) := by decide +kernel
theorem dL_areWrensSo_78 : decode cL_areWrensSo 78 = .ok (.iload_n 3, 1) := by decide +kernel
theorem dL_areWrensSo_79 : decode cL_areWrensSo 79 = .ok (.invokevirtual 71, 3) := by decide +kernel
theorem dL_areWrensSo_82 : decode cL_areWrensSo 82 = .ok (.if_icmp .gt 25, 3) := by decide +kernel
theorem dL_areWrensSo_85 : decode cL_areWrensSo 85 = .ok (.aload_n 0, 1) := by decide +kernel
theorem dL_areWrensSo_86 : decode cL_areWrensSo 86 = .ok (.iload_n 3, 1) := by decide +kernel
theorem dL_areWrensSo_87 : decode cL_areWrensSo 87 = .ok (.invokevirtual 68, 3) := by decide +kernel
theorem dL_areWrensSo_90 : decode cL_areWrensSo 90 = .ok (.sipush 12000, 3) := by decide +kernel
theorem dL_areWrensSo_93 : decode cL_areWrensSo 93 = .ok (.if_icmp .gt 14, 3) := by decide +kernel
theorem dL_areWrensSo_96 : decode cL_areWrensSo 96 = .ok (.aload_n 0, 1) := by decide +kernel
theorem dL_areWrensSo_97 : decode cL_areWrensSo 97 = .ok (.iload_n 3, 1) := by decide +kernel
theorem dL_areWrensSo_98 : decode cL_areWrensSo 98 = .ok (.invokevirtual 68, 3) := by decide +kernel
theorem dL_areWrensSo_101 : decode cL_areWrensSo 101 = .ok (.sipush (-12000), 3) := by decide +kernel
theorem dL_areWrensSo_104 : decode cL_areWrensSo 104 = .ok (.if_icmp .ge 5, 3) := by decide +kernel
theorem dL_areWrensSo_107 : decode cL_areWrensSo 107 = .ok (.iconst 0, 1) := by decide +kernel
theorem dL_areWrensSo_108 : decode cL_areWrensSo 108 = .ok (.ireturn, 1) := by decide +kernel
theorem dL_areWrensSo_109 : decode cL_areWrensSo 109 = .ok (.iinc 3 1, 3) := by decide +kernel
theorem dL_areWrensSo_112 : decode cL_areWrensSo 112 = .ok (.goto (-106), 3) := by decide +kernel
theorem dL_areWrensSo_115 : decode cL_areWrensSo 115 = .ok (.iconst 0, 1) := by decide +kernel
theorem dL_areWrensSo_116 : decode cL_areWrensSo 116 = .ok (.istore_n 3, 1) := by decide +kernel
theorem dL_areWrensSo_117 : decode cL_areWrensSo 117 = .ok (.iload_n 3, 1) := by decide +kernel
theorem dL_areWrensSo_118 : decode cL_areWrensSo 118 = .ok (.bipush 12, 2) := by decide +kernel
theorem dL_areWrensSo_120 : decode cL_areWrensSo 120 = .ok (.if_icmp .ge 17, 3) := by decide +kernel
theorem dL_areWrensSo_123 : decode cL_areWrensSo 123 = .ok (.iload_n 2, 1) := by decide +kernel
theorem dL_areWrensSo_124 : decode cL_areWrensSo 124 = .ok (.aload_n 0, 1) := by decide +kernel
theorem dL_areWrensSo_125 : decode cL_areWrensSo 125 = .ok (.iload_n 3, 1) := by decide +kernel
theorem dL_areWrensSo_126 : decode cL_areWrensSo 126 = .ok (.invokevirtual 86, 3) := by decide +kernel
theorem dL_areWrensSo_129 : decode cL_areWrensSo 129 = .ok (.iadd, 1) := by decide +kernel
theorem dL_areWrensSo_130 : decode cL_areWrensSo 130 = .ok (.istore_n 2, 1) := by decide +kernel
theorem dL_areWrensSo_131 : decode cL_areWrensSo 131 = .ok (.iinc 3 1, 3) := by decide +kernel
theorem dL_areWrensSo_134 : decode cL_areWrensSo 134 = .ok (.goto (-17), 3) := by decide +kernel
theorem dL_areWrensSo_137 : decode cL_areWrensSo 137 = .ok (.iload_n 1, 1) := by decide +kernel
theorem dL_areWrensSo_138 : decode cL_areWrensSo 138 = .ok (.iload_n 2, 1) := by decide +kernel
theorem dL_areWrensSo_139 : decode cL_areWrensSo 139 = .ok (.if_icmp .ne 7, 3) := by decide +kernel
theorem dL_areWrensSo_142 : decode cL_areWrensSo 142 = .ok (.iconst 1, 1) := by decide +kernel
theorem dL_areWrensSo_143 : decode cL_areWrensSo 143 = .ok (.goto 4, 3) := by decide +kernel
theorem dL_areWrensSo_146 : decode cL_areWrensSo 146 = .ok (.iconst 0, 1) := by decide +kernel
theorem dL_areWrensSo_147 : decode cL_areWrensSo 147 = .ok (.ireturn, 1) := by decide +kernel
set_option maxRecDepth 20000 in
theorem ggL_isScaleSo_X0_rungs : GoodIn wsL_isScaleSo wsX0_rungs := goodIn_r _ [5, 6, 7, 8, 4, 9, 10, 11, 12, 13, 14, 15, 16, 17, 18, 19, 20, 21, 22, 23, 58, 59, 60, 61, 62, 63, 64, 65, 66, 67, 68, 69] (by decide +kernel) (by decide +kernel)
set_option maxRecDepth 20000 in
theorem gL_isScaleSo_X0_rungs : GoodIn wsL_isScaleSo (wsV RL 58 RX0 yX0_rungs wsX0_rungs) := goodIn_app (goodIn_of _ (by decide +kernel)) ggL_isScaleSo_X0_rungs
set_option maxRecDepth 20000 in
theorem ggL_isScaleSo_X0_nearest : GoodIn wsL_isScaleSo wsX0_nearest := goodIn_ca (goodIn_r _ [27, 28, 29, 4, 30, 31, 32, 33, 34, 35, 36, 37, 38, 39, 40, 41, 42, 43, 10, 11, 12, 13, 14, 15, 16, 17, 18, 19, 20, 21, 22, 23, 44, 45, 46, 47, 58, 59, 60, 61, 62, 63, 64, 65, 66, 67, 68, 69] (by decide +kernel) (by decide +kernel)) (goodIn_sub (fun _ h => List.mem_cons_of_mem _ (List.mem_append_left _ (List.mem_append_right _ h))) (by decide +kernel))
set_option maxRecDepth 20000 in
theorem gL_isScaleSo_X0_nearest : GoodIn wsL_isScaleSo (wsV RL 92 RX0 yX0_nearest wsX0_nearest) := goodIn_app (goodIn_of _ (by decide +kernel)) ggL_isScaleSo_X0_nearest
set_option maxRecDepth 20000 in
theorem ggL_isScaleSo_X0_rung : GoodIn wsL_isScaleSo wsX0_rung := goodIn_ca (goodIn_r _ [51, 52, 53, 6, 7, 8, 4, 9, 10, 11, 12, 13, 14, 15, 16, 17, 18, 19, 20, 21, 22, 23, 58, 59, 60, 61, 62, 63, 64, 65, 66, 67, 68, 69] (by decide +kernel) (by decide +kernel)) (goodIn_sub (fun _ h => List.mem_cons_of_mem _ (List.mem_append_right _ h)) (by decide +kernel))
set_option maxRecDepth 20000 in
theorem gL_isScaleSo_X0_rung : GoodIn wsL_isScaleSo (wsV RL 62 RX0 yX0_rung wsX0_rung) := goodIn_app (goodIn_of _ (by decide +kernel)) ggL_isScaleSo_X0_rung
set_option maxRecDepth 20000 in
theorem ggL_isScaleSo_X0_stepOf : GoodIn wsL_isScaleSo wsX0_stepOf := goodIn_ca (goodIn_r _ [57, 28, 29, 4, 30, 31, 32, 33, 34, 35, 10, 11, 12, 13, 14, 15, 16, 17, 18, 19, 20, 21, 22, 23, 58, 59, 60, 61, 62, 63, 64, 65, 66, 67, 68, 69] (by decide +kernel) (by decide +kernel)) (goodIn_sub (fun _ h => List.mem_cons_of_mem _ (List.mem_append_left _ (List.mem_append_right _ h))) (by decide +kernel))
set_option maxRecDepth 20000 in
theorem gL_isScaleSo_X0_stepOf : GoodIn wsL_isScaleSo (wsV RL 89 RX0 yX0_stepOf wsX0_stepOf) := goodIn_app (goodIn_of _ (by decide +kernel)) ggL_isScaleSo_X0_stepOf
theorem dL_isScaleSo_0 : decode cL_isScaleSo 0 = .ok (.aload_n 0, 1) := by decide +kernel
theorem dL_isScaleSo_1 : decode cL_isScaleSo 1 = .ok (.invokevirtual 58, 3) := by decide +kernel
theorem dL_isScaleSo_4 : decode cL_isScaleSo 4 = .ok (.istore_n 2, 1) := by decide +kernel
theorem dL_isScaleSo_5 : decode cL_isScaleSo 5 = .ok (.aload_n 0, 1) := by decide +kernel
theorem dL_isScaleSo_6 : decode cL_isScaleSo 6 = .ok (.iload_n 1, 1) := by decide +kernel
theorem dL_isScaleSo_7 : decode cL_isScaleSo 7 = .ok (.invokevirtual 92, 3) := by decide +kernel
theorem dL_isScaleSo_10 : decode cL_isScaleSo 10 = .ok (.istore_n 3, 1) := by decide +kernel
theorem dL_isScaleSo_11 : decode cL_isScaleSo 11 = .ok (.iload_n 3, 1) := by decide +kernel
theorem dL_isScaleSo_12 : decode cL_isScaleSo 12 = .ok (.iload_n 1, 1) := by decide +kernel
theorem dL_isScaleSo_13 : decode cL_isScaleSo 13 = .ok (.if_icmp .le 9, 3) := by decide +kernel
theorem dL_isScaleSo_16 : decode cL_isScaleSo 16 = .ok (.iload_n 3, 1) := by decide +kernel
theorem dL_isScaleSo_17 : decode cL_isScaleSo 17 = .ok (.iload_n 1, 1) := by decide +kernel
theorem dL_isScaleSo_18 : decode cL_isScaleSo 18 = .ok (.isub, 1) := by decide +kernel
theorem dL_isScaleSo_19 : decode cL_isScaleSo 19 = .ok (.goto 6, 3) := by decide +kernel
theorem dL_isScaleSo_22 : decode cL_isScaleSo 22 = .ok (.iload_n 1, 1) := by decide +kernel
theorem dL_isScaleSo_23 : decode cL_isScaleSo 23 = .ok (.iload_n 3, 1) := by decide +kernel
theorem dL_isScaleSo_24 : decode cL_isScaleSo 24 = .ok (.isub, 1) := by decide +kernel
theorem dL_isScaleSo_25 : decode cL_isScaleSo 25 = .ok (.istore 4, 2) := by decide +kernel
theorem dL_isScaleSo_27 : decode cL_isScaleSo 27 = .ok (.iconst (-1), 1) := by decide +kernel
theorem dL_isScaleSo_28 : decode cL_isScaleSo 28 = .ok (.istore 5, 2) := by decide +kernel
theorem dL_isScaleSo_30 : decode cL_isScaleSo 30 = .ok (.iconst 0, 1) := by decide +kernel
theorem dL_isScaleSo_31 : decode cL_isScaleSo 31 = .ok (.istore 6, 2) := by decide +kernel
theorem dL_isScaleSo_33 : decode cL_isScaleSo 33 = .ok (.iconst 0, 1) := by decide +kernel
theorem dL_isScaleSo_34 : decode cL_isScaleSo 34 = .ok (.istore 7, 2) := by decide +kernel
theorem dL_isScaleSo_36 : decode cL_isScaleSo 36 = .ok (.iload 7, 2) := by decide +kernel
theorem dL_isScaleSo_38 : decode cL_isScaleSo 38 = .ok (.iload_n 2, 1) := by decide +kernel
theorem dL_isScaleSo_39 : decode cL_isScaleSo 39 = .ok (.if_icmp .ge 175, 3) := by decide +kernel
theorem dL_isScaleSo_42 : decode cL_isScaleSo 42 = .ok (.aload_n 0, 1) := by decide +kernel
theorem dL_isScaleSo_43 : decode cL_isScaleSo 43 = .ok (.iload 7, 2) := by decide +kernel
theorem dL_isScaleSo_45 : decode cL_isScaleSo 45 = .ok (.invokevirtual 62, 3) := by decide +kernel
theorem dL_isScaleSo_48 : decode cL_isScaleSo 48 = .ok (.istore 8, 2) := by decide +kernel
theorem dL_isScaleSo_50 : decode cL_isScaleSo 50 = .ok (.iload 8, 2) := by decide +kernel
theorem dL_isScaleSo_52 : decode cL_isScaleSo 52 = .ok (.iload_n 1, 1) := by decide +kernel
theorem dL_isScaleSo_53 : decode cL_isScaleSo 53 = .ok (.if_icmp .le 10, 3) := by decide +kernel
theorem dL_isScaleSo_56 : decode cL_isScaleSo 56 = .ok (.iload 8, 2) := by decide +kernel
theorem dL_isScaleSo_58 : decode cL_isScaleSo 58 = .ok (.iload_n 1, 1) := by decide +kernel
theorem dL_isScaleSo_59 : decode cL_isScaleSo 59 = .ok (.isub, 1) := by decide +kernel
theorem dL_isScaleSo_60 : decode cL_isScaleSo 60 = .ok (.goto 7, 3) := by decide +kernel
theorem dL_isScaleSo_63 : decode cL_isScaleSo 63 = .ok (.iload_n 1, 1) := by decide +kernel
theorem dL_isScaleSo_64 : decode cL_isScaleSo 64 = .ok (.iload 8, 2) := by decide +kernel
theorem dL_isScaleSo_66 : decode cL_isScaleSo 66 = .ok (.isub, 1) := by decide +kernel
theorem dL_isScaleSo_67 : decode cL_isScaleSo 67 = .ok (.istore 9, 2) := by decide +kernel
theorem dL_isScaleSo_69 : decode cL_isScaleSo 69 = .ok (.iload 8, 2) := by decide +kernel
theorem dL_isScaleSo_71 : decode cL_isScaleSo 71 = .ok (.iload 5, 2) := by decide +kernel
theorem dL_isScaleSo_73 : decode cL_isScaleSo 73 = .ok (.if_icmp .le 111, 3) := by decide +kernel
theorem dL_isScaleSo_76 : decode cL_isScaleSo 76 = .ok (.iload 8, 2) := by decide +kernel
theorem dL_isScaleSo_78 : decode cL_isScaleSo 78 = .ok (.sipush 12000, 3) := by decide +kernel
theorem dL_isScaleSo_81 : decode cL_isScaleSo 81 = .ok (.if_icmp .gt 103, 3) := by decide +kernel
theorem dL_isScaleSo_84 : decode cL_isScaleSo 84 = .ok (.iload 8, 2) := by decide +kernel
theorem dL_isScaleSo_86 : decode cL_isScaleSo 86 = .ok (.bipush 100, 2) := by decide +kernel
theorem dL_isScaleSo_88 : decode cL_isScaleSo 88 = .ok (.irem, 1) := by decide +kernel
theorem dL_isScaleSo_89 : decode cL_isScaleSo 89 = .ok (.ifCond .ne 95, 3) := by decide +kernel
theorem dL_isScaleSo_92 : decode cL_isScaleSo 92 = .ok (.aload_n 0, 1) := by decide +kernel
theorem dL_isScaleSo_93 : decode cL_isScaleSo 93 = .ok (.iload 8, 2) := by decide +kernel
theorem dL_isScaleSo_95 : decode cL_isScaleSo 95 = .ok (.invokevirtual 89, 3) := by decide +kernel
theorem dL_isScaleSo_98 : decode cL_isScaleSo 98 = .ok (.ifCond .lt 86, 3) := by decide +kernel
theorem dL_isScaleSo_101 : decode cL_isScaleSo 101 = .ok (.aload_n 0, 1) := by decide +kernel
theorem dL_isScaleSo_102 : decode cL_isScaleSo 102 = .ok (.iload 8, 2) := by decide +kernel
theorem dL_isScaleSo_104 : decode cL_isScaleSo 104 = .ok (.invokevirtual 92, 3) := by decide +kernel
theorem dL_isScaleSo_107 : decode cL_isScaleSo 107 = .ok (.iload 8, 2) := by decide +kernel
theorem dL_isScaleSo_109 : decode cL_isScaleSo 109 = .ok (.if_icmp .ne 75, 3) := by decide +kernel
theorem dL_isScaleSo_112 : decode cL_isScaleSo 112 = .ok (.iload 9, 2) := by decide +kernel
theorem dL_isScaleSo_114 : decode cL_isScaleSo 114 = .ok (.iload 4, 2) := by decide +kernel
theorem dL_isScaleSo_116 : decode cL_isScaleSo 116 = .ok (.if_icmp .lt 68, 3) := by decide +kernel
theorem dL_isScaleSo_119 : decode cL_isScaleSo 119 = .ok (.iload 9, 2) := by decide +kernel
theorem dL_isScaleSo_121 : decode cL_isScaleSo 121 = .ok (.iload 4, 2) := by decide +kernel
theorem dL_isScaleSo_123 : decode cL_isScaleSo 123 = .ok (.if_icmp .ne 9, 3) := by decide +kernel
theorem dL_isScaleSo_126 : decode cL_isScaleSo 126 = .ok (.iload 8, 2) := by decide +kernel
theorem dL_isScaleSo_128 : decode cL_isScaleSo 128 = .ok (.iload_n 3, 1) := by decide +kernel
theorem dL_isScaleSo_129 : decode cL_isScaleSo 129 = .ok (.if_icmp .lt 55, 3) := by decide +kernel
theorem dL_isScaleSo_132 : decode cL_isScaleSo 132 = .ok (.iload 7, 2) := by decide +kernel
theorem dL_isScaleSo_134 : decode cL_isScaleSo 134 = .ok (.ifCond .le 14, 3) := by decide +kernel
theorem dL_isScaleSo_137 : decode cL_isScaleSo 137 = .ok (.iload 8, 2) := by decide +kernel
theorem dL_isScaleSo_139 : decode cL_isScaleSo 139 = .ok (.iload 5, 2) := by decide +kernel
theorem dL_isScaleSo_141 : decode cL_isScaleSo 141 = .ok (.isub, 1) := by decide +kernel
theorem dL_isScaleSo_142 : decode cL_isScaleSo 142 = .ok (.sipush 200, 3) := by decide +kernel
theorem dL_isScaleSo_145 : decode cL_isScaleSo 145 = .ok (.if_icmp .gt 39, 3) := by decide +kernel
theorem dL_isScaleSo_148 : decode cL_isScaleSo 148 = .ok (.iload 7, 2) := by decide +kernel
theorem dL_isScaleSo_150 : decode cL_isScaleSo 150 = .ok (.ifCond .le 36, 3) := by decide +kernel
theorem dL_isScaleSo_153 : decode cL_isScaleSo 153 = .ok (.aload_n 0, 1) := by decide +kernel
theorem dL_isScaleSo_154 : decode cL_isScaleSo 154 = .ok (.iload 8, 2) := by decide +kernel
theorem dL_isScaleSo_156 : decode cL_isScaleSo 156 = .ok (.invokevirtual 89, 3) := by decide +kernel
theorem dL_isScaleSo_159 : decode cL_isScaleSo 159 = .ok (.aload_n 0, 1) := by decide +kernel
theorem dL_isScaleSo_160 : decode cL_isScaleSo 160 = .ok (.iload 5, 2) := by decide +kernel
theorem dL_isScaleSo_162 : decode cL_isScaleSo 162 = .ok (.invokevirtual 89, 3) := by decide +kernel
theorem dL_isScaleSo_165 : decode cL_isScaleSo 165 = .ok (.iconst 1, 1) := by decide +kernel
theorem dL_isScaleSo_166 : decode cL_isScaleSo 166 = .ok (.iadd, 1) := by decide +kernel
theorem dL_isScaleSo_167 : decode cL_isScaleSo 167 = .ok (.iload_n 2, 1) := by decide +kernel
theorem dL_isScaleSo_168 : decode cL_isScaleSo 168 = .ok (.bipush 100, 2) := by decide +kernel
theorem dL_isScaleSo_170 : decode cL_isScaleSo 170 = .ok (.if_icmp .le 8, 3) := by decide +kernel
theorem dL_isScaleSo_173 : decode cL_isScaleSo 173 = .ok (.bipush 12, 2) := by decide +kernel
theorem dL_isScaleSo_175 : decode cL_isScaleSo 175 = .ok (.goto 5, 3) := by decide +kernel
theorem dL_isScaleSo_178 : decode cL_isScaleSo 178 = .ok (.bipush 7, 2) := by decide +kernel
theorem dL_isScaleSo_180 : decode cL_isScaleSo 180 = .ok (.irem, 1) := by decide +kernel
theorem dL_isScaleSo_181 : decode cL_isScaleSo 181 = .ok (.if_icmp .eq 5, 3) := by decide +kernel
theorem dL_isScaleSo_184 : decode cL_isScaleSo 184 = .ok (.iconst 0, 1) := by decide +kernel
theorem dL_isScaleSo_185 : decode cL_isScaleSo 185 = .ok (.ireturn, 1) := by decide +kernel
theorem dL_isScaleSo_186 : decode cL_isScaleSo 186 = .ok (.iload 6, 2) := by decide +kernel
theorem dL_isScaleSo_188 : decode cL_isScaleSo 188 = .ok (.ifCond .ne 9, 3) := by decide +kernel
theorem dL_isScaleSo_191 : decode cL_isScaleSo 191 = .ok (.iload 8, 2) := by decide +kernel
theorem dL_isScaleSo_193 : decode cL_isScaleSo 193 = .ok (.iload_n 3, 1) := by decide +kernel
theorem dL_isScaleSo_194 : decode cL_isScaleSo 194 = .ok (.if_icmp .ne 7, 3) := by decide +kernel
theorem dL_isScaleSo_197 : decode cL_isScaleSo 197 = .ok (.iconst 1, 1) := by decide +kernel
theorem dL_isScaleSo_198 : decode cL_isScaleSo 198 = .ok (.goto 4, 3) := by decide +kernel
theorem dL_isScaleSo_201 : decode cL_isScaleSo 201 = .ok (.iconst 0, 1) := by decide +kernel
theorem dL_isScaleSo_202 : decode cL_isScaleSo 202 = .ok (.istore 6, 2) := by decide +kernel
theorem dL_isScaleSo_204 : decode cL_isScaleSo 204 = .ok (.iload 8, 2) := by decide +kernel
theorem dL_isScaleSo_206 : decode cL_isScaleSo 206 = .ok (.istore 5, 2) := by decide +kernel
theorem dL_isScaleSo_208 : decode cL_isScaleSo 208 = .ok (.iinc 7 1, 3) := by decide +kernel
theorem dL_isScaleSo_211 : decode cL_isScaleSo 211 = .ok (.goto (-175), 3) := by decide +kernel
theorem dL_isScaleSo_214 : decode cL_isScaleSo 214 = .ok (.iload 6, 2) := by decide +kernel
theorem dL_isScaleSo_216 : decode cL_isScaleSo 216 = .ok (.ifCond .eq 44, 3) := by decide +kernel
theorem dL_isScaleSo_219 : decode cL_isScaleSo 219 = .ok (.iload_n 2, 1) := by decide +kernel
theorem dL_isScaleSo_220 : decode cL_isScaleSo 220 = .ok (.bipush 121, 2) := by decide +kernel
theorem dL_isScaleSo_222 : decode cL_isScaleSo 222 = .ok (.if_icmp .eq 15, 3) := by decide +kernel
theorem dL_isScaleSo_225 : decode cL_isScaleSo 225 = .ok (.iload_n 2, 1) := by decide +kernel
theorem dL_isScaleSo_226 : decode cL_isScaleSo 226 = .ok (.bipush 70, 2) := by decide +kernel
theorem dL_isScaleSo_228 : decode cL_isScaleSo 228 = .ok (.if_icmp .eq 9, 3) := by decide +kernel
theorem dL_isScaleSo_231 : decode cL_isScaleSo 231 = .ok (.iload_n 2, 1) := by decide +kernel
theorem dL_isScaleSo_232 : decode cL_isScaleSo 232 = .ok (.bipush 71, 2) := by decide +kernel
theorem dL_isScaleSo_234 : decode cL_isScaleSo 234 = .ok (.if_icmp .ne 26, 3) := by decide +kernel
theorem dL_isScaleSo_237 : decode cL_isScaleSo 237 = .ok (.iload 5, 2) := by decide +kernel
theorem dL_isScaleSo_239 : decode cL_isScaleSo 239 = .ok (.sipush 11800, 3) := by decide +kernel
theorem dL_isScaleSo_242 : decode cL_isScaleSo 242 = .ok (.if_icmp .le 18, 3) := by decide +kernel
theorem dL_isScaleSo_245 : decode cL_isScaleSo 245 = .ok (.aload_n 0, 1) := by decide +kernel
theorem dL_isScaleSo_246 : decode cL_isScaleSo 246 = .ok (.iconst 0, 1) := by decide +kernel
theorem dL_isScaleSo_247 : decode cL_isScaleSo 247 = .ok (.invokevirtual 62, 3) := by decide +kernel
theorem dL_isScaleSo_250 : decode cL_isScaleSo 250 = .ok (.sipush 200, 3) := by decide +kernel
theorem dL_isScaleSo_253 : decode cL_isScaleSo 253 = .ok (.if_icmp .ge 7, 3) := by decide +kernel
theorem dL_isScaleSo_256 : decode cL_isScaleSo 256 = .ok (.iconst 1, 1) := by decide +kernel
theorem dL_isScaleSo_257 : decode cL_isScaleSo 257 = .ok (.goto 4, 3) := by decide +kernel
theorem dL_isScaleSo_260 : decode cL_isScaleSo 260 = .ok (.iconst 0, 1) := by decide +kernel
theorem dL_isScaleSo_261 : decode cL_isScaleSo 261 = .ok (.ireturn, 1) := by decide +kernel
set_option maxRecDepth 20000 in
theorem ggL_areKeysSo_X0_bestKey : GoodIn wsL_areKeysSo wsX0_bestKey := goodIn_ca (goodIn_r _ [5, 6, 7, 4, 8, 9, 10, 11, 12, 13, 14, 15, 16, 17, 18, 19, 20, 21, 22, 23, 38, 39, 40, 41, 42, 43, 44, 45, 46, 47, 48, 49] (by decide +kernel) (by decide +kernel)) (goodIn_sub (fun _ h => List.mem_cons_of_mem _ (List.mem_append_left _ (List.mem_append_right _ h))) (by decide +kernel))
set_option maxRecDepth 20000 in
theorem gL_areKeysSo_X0_bestKey : GoodIn wsL_areKeysSo (wsV RL 95 RX0 yX0_bestKey wsX0_bestKey) := goodIn_app (goodIn_of _ (by decide +kernel)) ggL_areKeysSo_X0_bestKey
set_option maxRecDepth 20000 in
theorem ggL_areKeysSo_X0_within : GoodIn wsL_areKeysSo wsX0_within := goodIn_ca (goodIn_r _ [27, 6, 7, 4, 8, 9, 10, 11, 12, 13, 14, 15, 16, 17, 18, 19, 20, 21, 22, 23, 38, 39, 40, 41, 42, 43, 44, 45, 46, 47, 48, 49] (by decide +kernel) (by decide +kernel)) (goodIn_sub (fun _ h => List.mem_cons_of_mem _ (List.mem_append_left _ (List.mem_append_right _ h))) (by decide +kernel))
set_option maxRecDepth 20000 in
theorem gL_areKeysSo_X0_within : GoodIn wsL_areKeysSo (wsV RL 98 RX0 yX0_within wsX0_within) := goodIn_app (goodIn_of _ (by decide +kernel)) ggL_areKeysSo_X0_within
set_option maxRecDepth 20000 in
theorem ggL_areKeysSo_X0_framesOf : GoodIn wsL_areKeysSo wsX0_framesOf := goodIn_ca (goodIn_r _ [31, 32, 33, 34, 4, 35, 36, 37, 38, 39, 40, 41, 42, 43, 44, 45, 46, 47, 48, 49] (by decide +kernel) (by decide +kernel)) (goodIn_sub (fun _ h => List.mem_cons_of_mem _ (List.mem_append_right _ h)) (by decide +kernel))
set_option maxRecDepth 20000 in
theorem gL_areKeysSo_X0_framesOf : GoodIn wsL_areKeysSo (wsV RL 71 RX0 yX0_framesOf wsX0_framesOf) := goodIn_app (goodIn_of _ (by decide +kernel)) ggL_areKeysSo_X0_framesOf
theorem dL_areKeysSo_0 : decode cL_areKeysSo 0 = .ok (.aload_n 0, 1) := by decide +kernel
theorem dL_areKeysSo_1 : decode cL_areKeysSo 1 = .ok (.iload_n 1, 1) := by decide +kernel
theorem dL_areKeysSo_2 : decode cL_areKeysSo 2 = .ok (.invokevirtual 95, 3) := by decide +kernel
theorem dL_areKeysSo_5 : decode cL_areKeysSo 5 = .ok (.istore_n 2, 1) := by decide +kernel
theorem dL_areKeysSo_6 : decode cL_areKeysSo 6 = .ok (.aload_n 0, 1) := by decide +kernel
theorem dL_areKeysSo_7 : decode cL_areKeysSo 7 = .ok (.iload_n 2, 1) := by decide +kernel
theorem dL_areKeysSo_8 : decode cL_areKeysSo 8 = .ok (.iload_n 1, 1) := by decide +kernel
theorem dL_areKeysSo_9 : decode cL_areKeysSo 9 = .ok (.invokevirtual 98, 3) := by decide +kernel
theorem dL_areKeysSo_12 : decode cL_areKeysSo 12 = .ok (.istore_n 3, 1) := by decide +kernel
theorem dL_areKeysSo_13 : decode cL_areKeysSo 13 = .ok (.iconst 0, 1) := by decide +kernel
theorem dL_areKeysSo_14 : decode cL_areKeysSo 14 = .ok (.istore 4, 2) := by decide +kernel
theorem dL_areKeysSo_16 : decode cL_areKeysSo 16 = .ok (.aload_n 0, 1) := by decide +kernel
theorem dL_areKeysSo_17 : decode cL_areKeysSo 17 = .ok (.iconst 0, 1) := by decide +kernel
theorem dL_areKeysSo_18 : decode cL_areKeysSo 18 = .ok (.invokevirtual 71, 3) := by decide +kernel
theorem dL_areKeysSo_21 : decode cL_areKeysSo 21 = .ok (.aload_n 0, 1) := by decide +kernel
theorem dL_areKeysSo_22 : decode cL_areKeysSo 22 = .ok (.iconst 1, 1) := by decide +kernel
theorem dL_areKeysSo_23 : decode cL_areKeysSo 23 = .ok (.invokevirtual 71, 3) := by decide +kernel
theorem dL_areKeysSo_26 : decode cL_areKeysSo 26 = .ok (.iadd, 1) := by decide +kernel
theorem dL_areKeysSo_27 : decode cL_areKeysSo 27 = .ok (.aload_n 0, 1) := by decide +kernel
theorem dL_areKeysSo_28 : decode cL_areKeysSo 28 = .ok (.iconst 2, 1) := by decide +kernel
theorem dL_areKeysSo_29 : decode cL_areKeysSo 29 = .ok (.invokevirtual 71, 3) := by decide +kernel
theorem dL_areKeysSo_32 : decode cL_areKeysSo 32 = .ok (.iadd, 1) := by decide +kernel
theorem dL_areKeysSo_33 : decode cL_areKeysSo 33 = .ok (.aload_n 0, 1) := by decide +kernel
theorem dL_areKeysSo_34 : decode cL_areKeysSo 34 = .ok (.iconst 3, 1) := by decide +kernel
theorem dL_areKeysSo_35 : decode cL_areKeysSo 35 = .ok (.invokevirtual 71, 3) := by decide +kernel
theorem dL_areKeysSo_38 : decode cL_areKeysSo 38 = .ok (.iadd, 1) := by decide +kernel
theorem dL_areKeysSo_39 : decode cL_areKeysSo 39 = .ok (.istore 5, 2) := by decide +kernel
theorem dL_areKeysSo_41 : decode cL_areKeysSo 41 = .ok (.iconst 0, 1) := by decide +kernel
theorem dL_areKeysSo_42 : decode cL_areKeysSo 42 = .ok (.istore 6, 2) := by decide +kernel
theorem dL_areKeysSo_44 : decode cL_areKeysSo 44 = .ok (.iload 6, 2) := by decide +kernel
theorem dL_areKeysSo_46 : decode cL_areKeysSo 46 = .ok (.bipush 12, 2) := by decide +kernel
theorem dL_areKeysSo_48 : decode cL_areKeysSo 48 = .ok (.if_icmp .ge 65, 3) := by decide +kernel
theorem dL_areKeysSo_51 : decode cL_areKeysSo 51 = .ok (.aload_n 0, 1) := by decide +kernel
theorem dL_areKeysSo_52 : decode cL_areKeysSo 52 = .ok (.iload 6, 2) := by decide +kernel
theorem dL_areKeysSo_54 : decode cL_areKeysSo 54 = .ok (.iload_n 1, 1) := by decide +kernel
theorem dL_areKeysSo_55 : decode cL_areKeysSo 55 = .ok (.invokevirtual 98, 3) := by decide +kernel
theorem dL_areKeysSo_58 : decode cL_areKeysSo 58 = .ok (.istore 7, 2) := by decide +kernel
theorem dL_areKeysSo_60 : decode cL_areKeysSo 60 = .ok (.iload 4, 2) := by decide +kernel
theorem dL_areKeysSo_62 : decode cL_areKeysSo 62 = .ok (.iload 7, 2) := by decide +kernel
theorem dL_areKeysSo_64 : decode cL_areKeysSo 64 = .ok (.iadd, 1) := by decide +kernel
theorem dL_areKeysSo_65 : decode cL_areKeysSo 65 = .ok (.istore 4, 2) := by decide +kernel
theorem dL_areKeysSo_67 : decode cL_areKeysSo 67 = .ok (.iload 7, 2) := by decide +kernel
theorem dL_areKeysSo_69 : decode cL_areKeysSo 69 = .ok (.iload_n 3, 1) := by decide +kernel
theorem dL_areKeysSo_70 : decode cL_areKeysSo 70 = .ok (.if_icmp .gt 35, 3) := by decide +kernel
theorem dL_areKeysSo_73 : decode cL_areKeysSo 73 = .ok (.iload 7, 2) := by decide +kernel
theorem dL_areKeysSo_75 : decode cL_areKeysSo 75 = .ok (.iload_n 3, 1) := by decide +kernel
theorem dL_areKeysSo_76 : decode cL_areKeysSo 76 = .ok (.if_icmp .ne 9, 3) := by decide +kernel
theorem dL_areKeysSo_79 : decode cL_areKeysSo 79 = .ok (.iload 6, 2) := by decide +kernel
theorem dL_areKeysSo_81 : decode cL_areKeysSo 81 = .ok (.iload_n 2, 1) := by decide +kernel
theorem dL_areKeysSo_82 : decode cL_areKeysSo 82 = .ok (.if_icmp .lt 23, 3) := by decide +kernel
theorem dL_areKeysSo_85 : decode cL_areKeysSo 85 = .ok (.iload 7, 2) := by decide +kernel
theorem dL_areKeysSo_87 : decode cL_areKeysSo 87 = .ok (.iload 5, 2) := by decide +kernel
theorem dL_areKeysSo_89 : decode cL_areKeysSo 89 = .ok (.if_icmp .gt 16, 3) := by decide +kernel
theorem dL_areKeysSo_92 : decode cL_areKeysSo 92 = .ok (.iload_n 1, 1) := by decide +kernel
theorem dL_areKeysSo_93 : decode cL_areKeysSo 93 = .ok (.bipush 7, 2) := by decide +kernel
theorem dL_areKeysSo_95 : decode cL_areKeysSo 95 = .ok (.if_icmp .ne 12, 3) := by decide +kernel
theorem dL_areKeysSo_98 : decode cL_areKeysSo 98 = .ok (.iload 7, 2) := by decide +kernel
theorem dL_areKeysSo_100 : decode cL_areKeysSo 100 = .ok (.iload 5, 2) := by decide +kernel
theorem dL_areKeysSo_102 : decode cL_areKeysSo 102 = .ok (.if_icmp .eq 5, 3) := by decide +kernel
theorem dL_areKeysSo_105 : decode cL_areKeysSo 105 = .ok (.iconst 0, 1) := by decide +kernel
theorem dL_areKeysSo_106 : decode cL_areKeysSo 106 = .ok (.ireturn, 1) := by decide +kernel
theorem dL_areKeysSo_107 : decode cL_areKeysSo 107 = .ok (.iinc 6 1, 3) := by decide +kernel
theorem dL_areKeysSo_110 : decode cL_areKeysSo 110 = .ok (.goto (-66), 3) := by decide +kernel
theorem dL_areKeysSo_113 : decode cL_areKeysSo 113 = .ok (.iload 4, 2) := by decide +kernel
theorem dL_areKeysSo_115 : decode cL_areKeysSo 115 = .ok (.iload 5, 2) := by decide +kernel
theorem dL_areKeysSo_117 : decode cL_areKeysSo 117 = .ok (.iload_n 1, 1) := by decide +kernel
theorem dL_areKeysSo_118 : decode cL_areKeysSo 118 = .ok (.bipush 7, 2) := by decide +kernel
theorem dL_areKeysSo_120 : decode cL_areKeysSo 120 = .ok (.if_icmp .ne 8, 3) := by decide +kernel
theorem dL_areKeysSo_123 : decode cL_areKeysSo 123 = .ok (.bipush 12, 2) := by decide +kernel
theorem dL_areKeysSo_125 : decode cL_areKeysSo 125 = .ok (.goto 5, 3) := by decide +kernel
theorem dL_areKeysSo_128 : decode cL_areKeysSo 128 = .ok (.bipush 7, 2) := by decide +kernel
theorem dL_areKeysSo_130 : decode cL_areKeysSo 130 = .ok (.imul, 1) := by decide +kernel
theorem dL_areKeysSo_131 : decode cL_areKeysSo 131 = .ok (.if_icmp .ne 7, 3) := by decide +kernel
theorem dL_areKeysSo_134 : decode cL_areKeysSo 134 = .ok (.iconst 1, 1) := by decide +kernel
theorem dL_areKeysSo_135 : decode cL_areKeysSo 135 = .ok (.goto 4, 3) := by decide +kernel
theorem dL_areKeysSo_138 : decode cL_areKeysSo 138 = .ok (.iconst 0, 1) := by decide +kernel
theorem dL_areKeysSo_139 : decode cL_areKeysSo 139 = .ok (.ireturn, 1) := by decide +kernel
set_option maxRecDepth 20000 in
theorem ggL_isNudgedSo_X0_framesToRung : GoodIn wsL_isNudgedSo wsX0_framesToRung := goodIn_ca (goodIn_ca (goodIn_r _ [5, 6, 7, 8, 4, 9, 10, 11, 12, 13, 14, 15, 16, 17, 18, 19, 20, 21, 22, 23, 24, 25, 26, 27, 28, 29, 30, 31, 32, 33, 34, 35, 36, 37, 38, 39, 40, 41, 42, 43, 44, 45, 46, 47, 48, 49, 50, 51, 52, 53, 54, 55, 56, 57, 58, 59, 60, 61, 62, 63, 64, 65, 66, 67, 68, 69, 70, 71, 72, 73, 74, 75, 76, 77, 78, 107, 108, 109, 110, 111, 112, 113, 114, 115, 116, 117, 118] (by decide +kernel) (by decide +kernel)) (goodIn_sub (fun _ h => List.mem_cons_of_mem _ (List.mem_append_left _ (List.mem_append_right _ h))) (by decide +kernel))) (goodIn_sub (fun _ h => List.mem_cons_of_mem _ (List.mem_append_right _ h)) (by decide +kernel))
set_option maxRecDepth 20000 in
theorem gL_isNudgedSo_X0_framesToRung : GoodIn wsL_isNudgedSo (wsV RL 83 RX0 yX0_framesToRung wsX0_framesToRung) := goodIn_app (goodIn_of _ (by decide +kernel)) ggL_isNudgedSo_X0_framesToRung
set_option maxRecDepth 20000 in
theorem ggL_isNudgedSo_X0_sing : GoodIn wsL_isNudgedSo wsX0_sing := goodIn_ca (goodIn_ca (goodIn_r _ [82, 7, 8, 4, 9, 10, 11, 12, 13, 14, 15, 16, 17, 18, 19, 83, 84, 85, 86, 6, 59, 87, 88, 89, 90, 91, 20, 21, 22, 23, 24, 25, 26, 27, 28, 29, 30, 31, 32, 33, 34, 35, 36, 37, 38, 39, 40, 41, 42, 43, 44, 45, 46, 47, 48, 49, 50, 51, 52, 53, 54, 55, 56, 57, 58, 60, 61, 62, 63, 64, 65, 66, 67, 68, 69, 70, 71, 72, 73, 74, 75, 76, 77, 78, 92, 93, 94, 95, 96, 97, 98, 107, 108, 109, 110, 111, 112, 113, 114, 115, 116, 117, 118] (by decide +kernel) (by decide +kernel)) (goodIn_sub (fun _ h => List.mem_cons_of_mem _ (List.mem_append_left _ (List.mem_append_right _ h))) (by decide +kernel))) (goodIn_sub (fun _ h => List.mem_cons_of_mem _ (List.mem_append_right _ h)) (by decide +kernel))
set_option maxRecDepth 20000 in
theorem gL_isNudgedSo_X0_sing : GoodIn wsL_isNudgedSo (wsV RL 8 RX0 yX0_sing wsX0_sing) := goodIn_app (goodIn_of _ (by decide +kernel)) ggL_isNudgedSo_X0_sing
set_option maxRecDepth 20000 in
theorem ggL_isNudgedSo_X0_rungOf : GoodIn wsL_isNudgedSo wsX0_rungOf := goodIn_ca (goodIn_r _ [102, 6, 7, 8, 4, 9, 10, 11, 107, 108, 109, 110, 111, 112, 113, 114, 115, 116, 117, 118] (by decide +kernel) (by decide +kernel)) (goodIn_sub (fun _ h => List.mem_cons_of_mem _ (List.mem_append_left _ (List.mem_append_right _ h))) (by decide +kernel))
set_option maxRecDepth 20000 in
theorem gL_isNudgedSo_X0_rungOf : GoodIn wsL_isNudgedSo (wsV RL 53 RX0 yX0_rungOf wsX0_rungOf) := goodIn_app (goodIn_of _ (by decide +kernel)) ggL_isNudgedSo_X0_rungOf
set_option maxRecDepth 20000 in
theorem ggL_isNudgedSo_X0_nudgeOf : GoodIn wsL_isNudgedSo wsX0_nudgeOf := goodIn_ca (goodIn_r _ [106, 59, 7, 8, 4, 9, 10, 11, 107, 108, 109, 110, 111, 112, 113, 114, 115, 116, 117, 118] (by decide +kernel) (by decide +kernel)) (goodIn_sub (fun _ h => List.mem_cons_of_mem _ (List.mem_append_left _ (List.mem_append_right _ h))) (by decide +kernel))
set_option maxRecDepth 20000 in
theorem gL_isNudgedSo_X0_nudgeOf : GoodIn wsL_isNudgedSo (wsV RL 68 RX0 yX0_nudgeOf wsX0_nudgeOf) := goodIn_app (goodIn_of _ (by decide +kernel)) ggL_isNudgedSo_X0_nudgeOf
theorem dL_isNudgedSo_0 : decode cL_isNudgedSo 0 = .ok (.aload_n 0, 1) := by decide +kernel
theorem dL_isNudgedSo_1 : decode cL_isNudgedSo 1 = .ok (.iload_n 1, 1) := by decide +kernel
theorem dL_isNudgedSo_2 : decode cL_isNudgedSo 2 = .ok (.iload_n 2, 1) := by decide +kernel
theorem dL_isNudgedSo_3 : decode cL_isNudgedSo 3 = .ok (.invokevirtual 83, 3) := by decide +kernel
theorem dL_isNudgedSo_6 : decode cL_isNudgedSo 6 = .ok (.istore_n 3, 1) := by decide +kernel
theorem dL_isNudgedSo_7 : decode cL_isNudgedSo 7 = .ok (.aload_n 0, 1) := by decide +kernel
theorem dL_isNudgedSo_8 : decode cL_isNudgedSo 8 = .ok (.iload_n 1, 1) := by decide +kernel
theorem dL_isNudgedSo_9 : decode cL_isNudgedSo 9 = .ok (.iload_n 2, 1) := by decide +kernel
theorem dL_isNudgedSo_10 : decode cL_isNudgedSo 10 = .ok (.invokevirtual 8, 3) := by decide +kernel
theorem dL_isNudgedSo_13 : decode cL_isNudgedSo 13 = .ok (.istore 4, 2) := by decide +kernel
theorem dL_isNudgedSo_15 : decode cL_isNudgedSo 15 = .ok (.aload_n 0, 1) := by decide +kernel
theorem dL_isNudgedSo_16 : decode cL_isNudgedSo 16 = .ok (.iload_n 1, 1) := by decide +kernel
theorem dL_isNudgedSo_17 : decode cL_isNudgedSo 17 = .ok (.invokevirtual 53, 3) := by decide +kernel
theorem dL_isNudgedSo_20 : decode cL_isNudgedSo 20 = .ok (.istore 5, 2) := by decide +kernel
theorem dL_isNudgedSo_22 : decode cL_isNudgedSo 22 = .ok (.iload 4, 2) := by decide +kernel
theorem dL_isNudgedSo_24 : decode cL_isNudgedSo 24 = .ok (.iload 5, 2) := by decide +kernel
theorem dL_isNudgedSo_26 : decode cL_isNudgedSo 26 = .ok (.if_icmp .le 11, 3) := by decide +kernel
theorem dL_isNudgedSo_29 : decode cL_isNudgedSo 29 = .ok (.iload 4, 2) := by decide +kernel
theorem dL_isNudgedSo_31 : decode cL_isNudgedSo 31 = .ok (.iload 5, 2) := by decide +kernel
theorem dL_isNudgedSo_33 : decode cL_isNudgedSo 33 = .ok (.isub, 1) := by decide +kernel
theorem dL_isNudgedSo_34 : decode cL_isNudgedSo 34 = .ok (.goto 8, 3) := by decide +kernel
theorem dL_isNudgedSo_37 : decode cL_isNudgedSo 37 = .ok (.iload 5, 2) := by decide +kernel
theorem dL_isNudgedSo_39 : decode cL_isNudgedSo 39 = .ok (.iload 4, 2) := by decide +kernel
theorem dL_isNudgedSo_41 : decode cL_isNudgedSo 41 = .ok (.isub, 1) := by decide +kernel
theorem dL_isNudgedSo_42 : decode cL_isNudgedSo 42 = .ok (.istore 6, 2) := by decide +kernel
theorem dL_isNudgedSo_44 : decode cL_isNudgedSo 44 = .ok (.iload 4, 2) := by decide +kernel
theorem dL_isNudgedSo_46 : decode cL_isNudgedSo 46 = .ok (.iload_n 2, 1) := by decide +kernel
theorem dL_isNudgedSo_47 : decode cL_isNudgedSo 47 = .ok (.aload_n 0, 1) := by decide +kernel
theorem dL_isNudgedSo_48 : decode cL_isNudgedSo 48 = .ok (.iload_n 1, 1) := by decide +kernel
theorem dL_isNudgedSo_49 : decode cL_isNudgedSo 49 = .ok (.invokevirtual 68, 3) := by decide +kernel
theorem dL_isNudgedSo_52 : decode cL_isNudgedSo 52 = .ok (.iadd, 1) := by decide +kernel
theorem dL_isNudgedSo_53 : decode cL_isNudgedSo 53 = .ok (.if_icmp .ne 35, 3) := by decide +kernel
theorem dL_isNudgedSo_56 : decode cL_isNudgedSo 56 = .ok (.iload 5, 2) := by decide +kernel
theorem dL_isNudgedSo_58 : decode cL_isNudgedSo 58 = .ok (.ifCond .lt 30, 3) := by decide +kernel
theorem dL_isNudgedSo_61 : decode cL_isNudgedSo 61 = .ok (.iload_n 3, 1) := by decide +kernel
theorem dL_isNudgedSo_62 : decode cL_isNudgedSo 62 = .ok (.iconst 1, 1) := by decide +kernel
theorem dL_isNudgedSo_63 : decode cL_isNudgedSo 63 = .ok (.if_icmp .ne 7, 3) := by decide +kernel
theorem dL_isNudgedSo_66 : decode cL_isNudgedSo 66 = .ok (.iconst 1, 1) := by decide +kernel
theorem dL_isNudgedSo_67 : decode cL_isNudgedSo 67 = .ok (.goto 4, 3) := by decide +kernel
theorem dL_isNudgedSo_70 : decode cL_isNudgedSo 70 = .ok (.iconst 0, 1) := by decide +kernel
theorem dL_isNudgedSo_71 : decode cL_isNudgedSo 71 = .ok (.iload 6, 2) := by decide +kernel
theorem dL_isNudgedSo_73 : decode cL_isNudgedSo 73 = .ok (.ifCond .ne 7, 3) := by decide +kernel
theorem dL_isNudgedSo_76 : decode cL_isNudgedSo 76 = .ok (.iconst 1, 1) := by decide +kernel
theorem dL_isNudgedSo_77 : decode cL_isNudgedSo 77 = .ok (.goto 4, 3) := by decide +kernel
theorem dL_isNudgedSo_80 : decode cL_isNudgedSo 80 = .ok (.iconst 0, 1) := by decide +kernel
theorem dL_isNudgedSo_81 : decode cL_isNudgedSo 81 = .ok (.if_icmp .ne 7, 3) := by decide +kernel
theorem dL_isNudgedSo_84 : decode cL_isNudgedSo 84 = .ok (.iconst 1, 1) := by decide +kernel
theorem dL_isNudgedSo_85 : decode cL_isNudgedSo 85 = .ok (.goto 4, 3) := by decide +kernel
theorem dL_isNudgedSo_88 : decode cL_isNudgedSo 88 = .ok (.iconst 0, 1) := by decide +kernel
theorem dL_isNudgedSo_89 : decode cL_isNudgedSo 89 = .ok (.istore 7, 2) := by decide +kernel
theorem dL_isNudgedSo_91 : decode cL_isNudgedSo 91 = .ok (.iconst 2, 1) := by decide +kernel
theorem dL_isNudgedSo_92 : decode cL_isNudgedSo 92 = .ok (.istore 8, 2) := by decide +kernel
theorem dL_isNudgedSo_94 : decode cL_isNudgedSo 94 = .ok (.iload 8, 2) := by decide +kernel
theorem dL_isNudgedSo_96 : decode cL_isNudgedSo 96 = .ok (.bipush 40, 2) := by decide +kernel
theorem dL_isNudgedSo_98 : decode cL_isNudgedSo 98 = .ok (.if_icmp .ge 121, 3) := by decide +kernel
theorem dL_isNudgedSo_101 : decode cL_isNudgedSo 101 = .ok (.iload 7, 2) := by decide +kernel
theorem dL_isNudgedSo_103 : decode cL_isNudgedSo 103 = .ok (.ifCond .eq 116, 3) := by decide +kernel
theorem dL_isNudgedSo_106 : decode cL_isNudgedSo 106 = .ok (.aload_n 0, 1) := by decide +kernel
theorem dL_isNudgedSo_107 : decode cL_isNudgedSo 107 = .ok (.iload_n 1, 1) := by decide +kernel
theorem dL_isNudgedSo_108 : decode cL_isNudgedSo 108 = .ok (.iload_n 2, 1) := by decide +kernel
theorem dL_isNudgedSo_109 : decode cL_isNudgedSo 109 = .ok (.invokevirtual 8, 3) := by decide +kernel
theorem dL_isNudgedSo_112 : decode cL_isNudgedSo 112 = .ok (.istore 9, 2) := by decide +kernel
theorem dL_isNudgedSo_114 : decode cL_isNudgedSo 114 = .ok (.iload 9, 2) := by decide +kernel
theorem dL_isNudgedSo_116 : decode cL_isNudgedSo 116 = .ok (.iload 5, 2) := by decide +kernel
theorem dL_isNudgedSo_118 : decode cL_isNudgedSo 118 = .ok (.if_icmp .le 11, 3) := by decide +kernel
theorem dL_isNudgedSo_121 : decode cL_isNudgedSo 121 = .ok (.iload 9, 2) := by decide +kernel
theorem dL_isNudgedSo_123 : decode cL_isNudgedSo 123 = .ok (.iload 5, 2) := by decide +kernel
theorem dL_isNudgedSo_125 : decode cL_isNudgedSo 125 = .ok (.isub, 1) := by decide +kernel
theorem dL_isNudgedSo_126 : decode cL_isNudgedSo 126 = .ok (.goto 8, 3) := by decide +kernel
theorem dL_isNudgedSo_129 : decode cL_isNudgedSo 129 = .ok (.iload 5, 2) := by decide +kernel
theorem dL_isNudgedSo_131 : decode cL_isNudgedSo 131 = .ok (.iload 9, 2) := by decide +kernel
theorem dL_isNudgedSo_133 : decode cL_isNudgedSo 133 = .ok (.isub, 1) := by decide +kernel
theorem dL_isNudgedSo_134 : decode cL_isNudgedSo 134 = .ok (.istore 10, 2) := by decide +kernel
theorem dL_isNudgedSo_136 : decode cL_isNudgedSo 136 = .ok (.aload_n 0, 1) := by decide +kernel
theorem dL_isNudgedSo_137 : decode cL_isNudgedSo 137 = .ok (.iload_n 1, 1) := by decide +kernel
theorem dL_isNudgedSo_138 : decode cL_isNudgedSo 138 = .ok (.invokevirtual 53, 3) := by decide +kernel
theorem dL_isNudgedSo_141 : decode cL_isNudgedSo 141 = .ok (.iload 5, 2) := by decide +kernel
theorem dL_isNudgedSo_143 : decode cL_isNudgedSo 143 = .ok (.if_icmp .ne 63, 3) := by decide +kernel
theorem dL_isNudgedSo_146 : decode cL_isNudgedSo 146 = .ok (.iload 9, 2) := by decide +kernel
theorem dL_isNudgedSo_148 : decode cL_isNudgedSo 148 = .ok (.iload_n 2, 1) := by decide +kernel
theorem dL_isNudgedSo_149 : decode cL_isNudgedSo 149 = .ok (.aload_n 0, 1) := by decide +kernel
theorem dL_isNudgedSo_150 : decode cL_isNudgedSo 150 = .ok (.iload_n 1, 1) := by decide +kernel
theorem dL_isNudgedSo_151 : decode cL_isNudgedSo 151 = .ok (.invokevirtual 68, 3) := by decide +kernel
theorem dL_isNudgedSo_154 : decode cL_isNudgedSo 154 = .ok (.iadd, 1) := by decide +kernel
theorem dL_isNudgedSo_155 : decode cL_isNudgedSo 155 = .ok (.if_icmp .ne 51, 3) := by decide +kernel
theorem dL_isNudgedSo_158 : decode cL_isNudgedSo 158 = .ok (.iload 10, 2) := by decide +kernel
theorem dL_isNudgedSo_160 : decode cL_isNudgedSo 160 = .ok (.iload 6, 2) := by decide +kernel
theorem dL_isNudgedSo_162 : decode cL_isNudgedSo 162 = .ok (.if_icmp .gt 44, 3) := by decide +kernel
theorem dL_isNudgedSo_165 : decode cL_isNudgedSo 165 = .ok (.iload_n 3, 1) := by decide +kernel
theorem dL_isNudgedSo_166 : decode cL_isNudgedSo 166 = .ok (.ifCond .lt 27, 3) := by decide +kernel
theorem dL_isNudgedSo_169 : decode cL_isNudgedSo 169 = .ok (.iload 10, 2) := by decide +kernel
theorem dL_isNudgedSo_171 : decode cL_isNudgedSo 171 = .ok (.ifCond .ne 7, 3) := by decide +kernel
theorem dL_isNudgedSo_174 : decode cL_isNudgedSo 174 = .ok (.iconst 1, 1) := by decide +kernel
theorem dL_isNudgedSo_175 : decode cL_isNudgedSo 175 = .ok (.goto 4, 3) := by decide +kernel
theorem dL_isNudgedSo_178 : decode cL_isNudgedSo 178 = .ok (.iconst 0, 1) := by decide +kernel
theorem dL_isNudgedSo_179 : decode cL_isNudgedSo 179 = .ok (.iload 8, 2) := by decide +kernel
theorem dL_isNudgedSo_181 : decode cL_isNudgedSo 181 = .ok (.iload_n 3, 1) := by decide +kernel
theorem dL_isNudgedSo_182 : decode cL_isNudgedSo 182 = .ok (.if_icmp .lt 7, 3) := by decide +kernel
theorem dL_isNudgedSo_185 : decode cL_isNudgedSo 185 = .ok (.iconst 1, 1) := by decide +kernel
theorem dL_isNudgedSo_186 : decode cL_isNudgedSo 186 = .ok (.goto 4, 3) := by decide +kernel
theorem dL_isNudgedSo_189 : decode cL_isNudgedSo 189 = .ok (.iconst 0, 1) := by decide +kernel
theorem dL_isNudgedSo_190 : decode cL_isNudgedSo 190 = .ok (.if_icmp .ne 16, 3) := by decide +kernel
theorem dL_isNudgedSo_193 : decode cL_isNudgedSo 193 = .ok (.iload_n 3, 1) := by decide +kernel
theorem dL_isNudgedSo_194 : decode cL_isNudgedSo 194 = .ok (.ifCond .gt 8, 3) := by decide +kernel
theorem dL_isNudgedSo_197 : decode cL_isNudgedSo 197 = .ok (.iload 10, 2) := by decide +kernel
theorem dL_isNudgedSo_199 : decode cL_isNudgedSo 199 = .ok (.ifCond .le 7, 3) := by decide +kernel
theorem dL_isNudgedSo_202 : decode cL_isNudgedSo 202 = .ok (.iconst 1, 1) := by decide +kernel
theorem dL_isNudgedSo_203 : decode cL_isNudgedSo 203 = .ok (.goto 4, 3) := by decide +kernel
theorem dL_isNudgedSo_206 : decode cL_isNudgedSo 206 = .ok (.iconst 0, 1) := by decide +kernel
theorem dL_isNudgedSo_207 : decode cL_isNudgedSo 207 = .ok (.istore 7, 2) := by decide +kernel
theorem dL_isNudgedSo_209 : decode cL_isNudgedSo 209 = .ok (.iload 10, 2) := by decide +kernel
theorem dL_isNudgedSo_211 : decode cL_isNudgedSo 211 = .ok (.istore 6, 2) := by decide +kernel
theorem dL_isNudgedSo_213 : decode cL_isNudgedSo 213 = .ok (.iinc 8 1, 3) := by decide +kernel
theorem dL_isNudgedSo_216 : decode cL_isNudgedSo 216 = .ok (.goto (-122), 3) := by decide +kernel
theorem dL_isNudgedSo_219 : decode cL_isNudgedSo 219 = .ok (.iload 7, 2) := by decide +kernel
theorem dL_isNudgedSo_221 : decode cL_isNudgedSo 221 = .ok (.ireturn, 1) := by decide +kernel
set_option maxRecDepth 20000 in
theorem ggL_law_X0_init : GoodIn wsL_law wsX0_init := goodIn_r _ [6, 7, 8, 9, 10, 11, 12, 13, 14, 15, 16, 17, 18, 19, 20, 21, 22, 233, 234, 235, 236, 237, 238, 239, 240, 241, 242, 243, 244] (by decide +kernel) (by decide +kernel)
set_option maxRecDepth 20000 in
theorem gL_law_X0_init : GoodIn wsL_law (wsX0_init) := ggL_law_X0_init
set_option maxRecDepth 20000 in
theorem ggL_law_L_cell : GoodIn wsL_law wsL_cell := goodIn_r _ [26] (by decide +kernel) (by decide +kernel)
set_option maxRecDepth 20000 in
theorem gL_law_L_cell : GoodIn wsL_law (va_wsS RL 102 yL_cell wsL_cell) := goodIn_app (goodIn_of _ (by decide +kernel)) ggL_law_L_cell
set_option maxRecDepth 20000 in
theorem ggL_law_L_act : GoodIn wsL_law wsL_act := goodIn_ca (goodIn_ca (goodIn_r _ [29, 3, 30, 31, 25, 32, 33, 34, 35, 36, 37, 38, 39, 40, 2, 41, 18, 19, 11, 42, 43, 44, 45, 46, 47, 48, 49, 50, 51, 52, 53, 54, 55, 56, 57, 58, 59, 60, 61, 62, 63, 64, 65, 66, 67, 68, 69, 20, 21, 22, 70, 71, 72, 73, 74, 75, 76, 77, 12, 78, 79, 80, 81, 82, 83, 84, 85, 86, 87, 88, 89, 14, 90, 91, 92, 93, 94, 95, 96, 97, 98, 99, 13, 15, 16, 17, 100, 101, 102, 103, 104, 105, 106, 107, 108, 109, 110, 111, 112, 113, 114, 115, 116, 117, 118, 119, 120, 121, 122, 123, 124, 125, 126, 127, 128, 129, 130, 131, 132, 133, 134, 135, 136, 137, 138, 139, 140, 141, 142, 143, 144, 145, 146, 147, 148, 149, 150, 151, 152, 153, 154, 233, 234, 235, 236, 237, 238, 239, 240, 241, 242, 243, 244] (by decide +kernel) (by decide +kernel)) (goodIn_sub (fun _ h => List.mem_append_left _ (List.mem_append_right _ h)) (by decide +kernel))) (goodIn_sub (fun _ h => List.mem_append_right _ h) (by decide +kernel))
set_option maxRecDepth 20000 in
theorem gL_law_L_act : GoodIn wsL_law (va_wsS RL 106 yL_act wsL_act) := goodIn_app (goodIn_of _ (by decide +kernel)) ggL_law_L_act
set_option maxRecDepth 20000 in
theorem ggL_law_L_areAlike : GoodIn wsL_law wsL_areAlike := goodIn_ca (goodIn_ca (goodIn_r _ [157, 158, 159, 160, 2, 161, 47, 48, 49, 50, 51, 52, 53, 54, 18, 19, 55, 56, 57, 58, 59, 60, 61, 62, 162, 163, 164, 165, 81, 82, 166, 167, 168, 169, 11, 170, 171, 172, 144, 145, 146, 147, 78, 79, 80, 173, 174, 175, 176, 12, 177, 178, 179, 180, 13, 181, 182, 183, 184, 14, 185, 186, 187, 188, 15, 189, 190, 191, 192, 16, 193, 194, 195, 196, 90, 91, 92, 42, 43, 44, 45, 46, 100, 101, 102, 103, 104, 105, 106, 107, 21, 108, 109, 110, 111, 112, 113, 114, 115, 116, 117, 118, 119, 120, 121, 122, 123, 124, 125, 126, 127, 22, 128, 129, 130, 131, 132, 133, 134, 20, 135, 136, 137, 138, 139, 140, 197, 198, 199, 200, 17, 233, 234, 235, 236, 237, 238, 239, 240, 241, 242, 243, 244] (by decide +kernel) (by decide +kernel)) (goodIn_sub (fun _ h => List.mem_append_right _ h) (by decide +kernel))) (goodIn_sub (fun _ h => List.mem_append_left _ (List.mem_append_right _ h)) (by decide +kernel))
set_option maxRecDepth 20000 in
theorem gL_law_L_areAlike : GoodIn wsL_law (va_wsS RL 109 yL_areAlike wsL_areAlike) := goodIn_app (goodIn_of _ (by decide +kernel)) ggL_law_L_areAlike
set_option maxRecDepth 20000 in
theorem ggL_law_L_areWrensSo : GoodIn wsL_law wsL_areWrensSo := goodIn_ca (goodIn_ca (goodIn_r _ [203, 144, 145, 146, 2, 147, 11, 78, 79, 80, 81, 82, 177, 178, 179, 180, 13, 204, 205, 206, 207, 90, 91, 92, 42, 43, 44, 45, 46, 51, 52, 53, 54, 18, 19, 55, 56, 57, 58, 59, 60, 61, 62, 185, 186, 187, 188, 15, 181, 182, 183, 184, 14, 189, 190, 191, 192, 16, 173, 174, 175, 176, 12, 197, 198, 199, 200, 17, 233, 234, 235, 236, 237, 238, 239, 240, 241, 242, 243, 244] (by decide +kernel) (by decide +kernel)) (goodIn_sub (fun _ h => List.mem_append_right _ h) (by decide +kernel))) (goodIn_sub (fun _ h => List.mem_append_left _ (List.mem_append_right _ h)) (by decide +kernel))
set_option maxRecDepth 20000 in
theorem gL_law_L_areWrensSo : GoodIn wsL_law (va_wsS RL 113 yL_areWrensSo wsL_areWrensSo) := goodIn_app (goodIn_of _ (by decide +kernel)) ggL_law_L_areWrensSo
set_option maxRecDepth 20000 in
theorem ggL_law_L_low : GoodIn wsL_law wsL_low := goodIn_r _ [32, 33] (by decide +kernel) (by decide +kernel)
set_option maxRecDepth 20000 in
theorem gL_law_L_low : GoodIn wsL_law (va_wsS RL 34 yL_low wsL_low) := goodIn_app (goodIn_of _ (by decide +kernel)) ggL_law_L_low
set_option maxRecDepth 20000 in
theorem ggL_law_L_isScaleSo : GoodIn wsL_law wsL_isScaleSo := goodIn_ca (goodIn_ca (goodIn_r _ [210, 158, 159, 160, 2, 161, 47, 48, 49, 50, 51, 52, 53, 54, 18, 19, 55, 56, 57, 58, 59, 60, 61, 62, 211, 212, 213, 214, 90, 91, 92, 42, 43, 44, 45, 46, 108, 109, 110, 111, 112, 113, 114, 115, 116, 117, 118, 119, 162, 163, 164, 165, 81, 82, 204, 205, 206, 207, 233, 234, 235, 236, 237, 238, 239, 240, 241, 242, 243, 244] (by decide +kernel) (by decide +kernel)) (goodIn_sub (fun _ h => List.mem_append_left _ (List.mem_append_right _ h)) (by decide +kernel))) (goodIn_sub (fun _ h => List.mem_append_right _ h) (by decide +kernel))
set_option maxRecDepth 20000 in
theorem gL_law_L_isScaleSo : GoodIn wsL_law (va_wsS RL 117 yL_isScaleSo wsL_isScaleSo) := goodIn_app (goodIn_of _ (by decide +kernel)) ggL_law_L_isScaleSo
set_option maxRecDepth 20000 in
theorem ggL_law_L_areKeysSo : GoodIn wsL_law wsL_areKeysSo := goodIn_ca (goodIn_ca (goodIn_r _ [217, 218, 219, 220, 2, 221, 42, 43, 44, 45, 46, 222, 223, 224, 225, 17, 55, 56, 57, 58, 59, 60, 61, 62, 226, 227, 228, 229, 177, 178, 179, 180, 13, 78, 79, 80, 81, 82, 233, 234, 235, 236, 237, 238, 239, 240, 241, 242, 243, 244] (by decide +kernel) (by decide +kernel)) (goodIn_sub (fun _ h => List.mem_append_left _ (List.mem_append_right _ h)) (by decide +kernel))) (goodIn_sub (fun _ h => List.mem_append_right _ h) (by decide +kernel))
set_option maxRecDepth 20000 in
theorem gL_law_L_areKeysSo : GoodIn wsL_law (va_wsS RL 121 yL_areKeysSo wsL_areKeysSo) := goodIn_app (goodIn_of _ (by decide +kernel)) ggL_law_L_areKeysSo
set_option maxRecDepth 20000 in
theorem ggL_law_L_isNudgedSo : GoodIn wsL_law wsL_isNudgedSo := goodIn_ca (goodIn_ca (goodIn_r _ [232, 193, 194, 195, 2, 196, 11, 78, 79, 80, 81, 82, 90, 91, 92, 42, 43, 44, 45, 46, 100, 101, 102, 103, 104, 105, 106, 107, 21, 108, 109, 110, 111, 112, 113, 114, 115, 51, 52, 53, 54, 18, 19, 55, 56, 57, 58, 59, 60, 61, 62, 116, 117, 118, 119, 120, 121, 122, 123, 12, 124, 125, 126, 127, 22, 128, 129, 130, 131, 132, 133, 134, 20, 135, 136, 137, 138, 139, 140, 151, 152, 153, 154, 96, 97, 98, 99, 13, 14, 15, 16, 17, 47, 48, 49, 50, 141, 142, 143, 144, 145, 146, 147, 173, 174, 175, 176, 233, 234, 235, 236, 237, 238, 239, 240, 241, 242, 243, 244] (by decide +kernel) (by decide +kernel)) (goodIn_sub (fun _ h => List.mem_append_right _ h) (by decide +kernel))) (goodIn_sub (fun _ h => List.mem_append_left _ (List.mem_append_right _ h)) (by decide +kernel))
set_option maxRecDepth 20000 in
theorem gL_law_L_isNudgedSo : GoodIn wsL_law (va_wsS RL 124 yL_isNudgedSo wsL_isNudgedSo) := goodIn_app (goodIn_of _ (by decide +kernel)) ggL_law_L_isNudgedSo
theorem dL_law_0 : decode cL_law 0 = .ok (.new 9, 3) := by decide +kernel
theorem dL_law_3 : decode cL_law 3 = .ok (.dup, 1) := by decide +kernel
theorem dL_law_4 : decode cL_law 4 = .ok (.invokespecial 101, 3) := by decide +kernel
theorem dL_law_7 : decode cL_law 7 = .ok (.astore_n 1, 1) := by decide +kernel
theorem dL_law_8 : decode cL_law 8 = .ok (.new 9, 3) := by decide +kernel
theorem dL_law_11 : decode cL_law 11 = .ok (.dup, 1) := by decide +kernel
theorem dL_law_12 : decode cL_law 12 = .ok (.invokespecial 101, 3) := by decide +kernel
theorem dL_law_15 : decode cL_law 15 = .ok (.astore_n 2, 1) := by decide +kernel
theorem dL_law_16 : decode cL_law 16 = .ok (.iconst 0, 1) := by decide +kernel
theorem dL_law_17 : decode cL_law 17 = .ok (.istore_n 3, 1) := by decide +kernel
theorem dL_law_18 : decode cL_law 18 = .ok (.iload_n 3, 1) := by decide +kernel
theorem dL_law_19 : decode cL_law 19 = .ok (.bipush 64, 2) := by decide +kernel
theorem dL_law_21 : decode cL_law 21 = .ok (.if_icmp .ge 170, 3) := by decide +kernel
theorem dL_law_24 : decode cL_law 24 = .ok (.aload_n 0, 1) := by decide +kernel
theorem dL_law_25 : decode cL_law 25 = .ok (.iload_n 3, 1) := by decide +kernel
theorem dL_law_26 : decode cL_law 26 = .ok (.invokestatic 102, 3) := by decide +kernel
theorem dL_law_29 : decode cL_law 29 = .ok (.istore 4, 2) := by decide +kernel
theorem dL_law_31 : decode cL_law 31 = .ok (.aload_n 1, 1) := by decide +kernel
theorem dL_law_32 : decode cL_law 32 = .ok (.iload 4, 2) := by decide +kernel
theorem dL_law_34 : decode cL_law 34 = .ok (.invokestatic 106, 3) := by decide +kernel
theorem dL_law_37 : decode cL_law 37 = .ok (.istore 5, 2) := by decide +kernel
theorem dL_law_39 : decode cL_law 39 = .ok (.iload 5, 2) := by decide +kernel
theorem dL_law_41 : decode cL_law 41 = .ok (.ldc 16, 2) := by decide +kernel
theorem dL_law_43 : decode cL_law 43 = .ok (.if_icmp .eq 14, 3) := by decide +kernel
theorem dL_law_46 : decode cL_law 46 = .ok (.aload_n 2, 1) := by decide +kernel
theorem dL_law_47 : decode cL_law 47 = .ok (.iload 4, 2) := by decide +kernel
theorem dL_law_49 : decode cL_law 49 = .ok (.invokestatic 106, 3) := by decide +kernel
theorem dL_law_52 : decode cL_law 52 = .ok (.iload 5, 2) := by decide +kernel
theorem dL_law_54 : decode cL_law 54 = .ok (.if_icmp .ne 18, 3) := by decide +kernel
theorem dL_law_57 : decode cL_law 57 = .ok (.aload_n 1, 1) := by decide +kernel
theorem dL_law_58 : decode cL_law 58 = .ok (.aload_n 2, 1) := by decide +kernel
theorem dL_law_59 : decode cL_law 59 = .ok (.invokestatic 109, 3) := by decide +kernel
theorem dL_law_62 : decode cL_law 62 = .ok (.ifCond .eq 10, 3) := by decide +kernel
theorem dL_law_65 : decode cL_law 65 = .ok (.aload_n 1, 1) := by decide +kernel
theorem dL_law_66 : decode cL_law 66 = .ok (.invokestatic 113, 3) := by decide +kernel
theorem dL_law_69 : decode cL_law 69 = .ok (.ifCond .ne 5, 3) := by decide +kernel
theorem dL_law_72 : decode cL_law 72 = .ok (.iconst 0, 1) := by decide +kernel
theorem dL_law_73 : decode cL_law 73 = .ok (.ireturn, 1) := by decide +kernel
theorem dL_law_74 : decode cL_law 74 = .ok (.iload_n 3, 1) := by decide +kernel
theorem dL_law_75 : decode cL_law 75 = .ok (.bipush 8, 2) := by decide +kernel
theorem dL_law_77 : decode cL_law 77 = .ok (.irem, 1) := by decide +kernel
theorem dL_law_78 : decode cL_law 78 = .ok (.iconst 3, 1) := by decide +kernel
theorem dL_law_79 : decode cL_law 79 = .ok (.if_icmp .ne 20, 3) := by decide +kernel
theorem dL_law_82 : decode cL_law 82 = .ok (.aload_n 1, 1) := by decide +kernel
theorem dL_law_83 : decode cL_law 83 = .ok (.iload 4, 2) := by decide +kernel
theorem dL_law_85 : decode cL_law 85 = .ok (.iconst 3, 1) := by decide +kernel
theorem dL_law_86 : decode cL_law 86 = .ok (.ishr, 1) := by decide +kernel
theorem dL_law_87 : decode cL_law 87 = .ok (.sipush 12001, 3) := by decide +kernel
theorem dL_law_90 : decode cL_law 90 = .ok (.invokestatic 34, 3) := by decide +kernel
theorem dL_law_93 : decode cL_law 93 = .ok (.invokestatic 117, 3) := by decide +kernel
theorem dL_law_96 : decode cL_law 96 = .ok (.ifCond .eq 27, 3) := by decide +kernel
theorem dL_law_99 : decode cL_law 99 = .ok (.iload_n 3, 1) := by decide +kernel
theorem dL_law_100 : decode cL_law 100 = .ok (.bipush 8, 2) := by decide +kernel
theorem dL_law_102 : decode cL_law 102 = .ok (.irem, 1) := by decide +kernel
theorem dL_law_103 : decode cL_law 103 = .ok (.iconst 5, 1) := by decide +kernel
theorem dL_law_104 : decode cL_law 104 = .ok (.if_icmp .ne 21, 3) := by decide +kernel
theorem dL_law_107 : decode cL_law 107 = .ok (.aload_n 1, 1) := by decide +kernel
theorem dL_law_108 : decode cL_law 108 = .ok (.iload 4, 2) := by decide +kernel
theorem dL_law_110 : decode cL_law 110 = .ok (.iconst 4, 1) := by decide +kernel
theorem dL_law_111 : decode cL_law 111 = .ok (.ishr, 1) := by decide +kernel
theorem dL_law_112 : decode cL_law 112 = .ok (.bipush 8, 2) := by decide +kernel
theorem dL_law_114 : decode cL_law 114 = .ok (.invokestatic 34, 3) := by decide +kernel
theorem dL_law_117 : decode cL_law 117 = .ok (.invokestatic 121, 3) := by decide +kernel
theorem dL_law_120 : decode cL_law 120 = .ok (.ifCond .ne 5, 3) := by decide +kernel
theorem dL_law_123 : decode cL_law 123 = .ok (.iconst 0, 1) := by decide +kernel
theorem dL_law_124 : decode cL_law 124 = .ok (.ireturn, 1) := by decide +kernel
theorem dL_law_125 : decode cL_law 125 = .ok (.iload_n 3, 1) := by decide +kernel
theorem dL_law_126 : decode cL_law 126 = .ok (.bipush 6, 2) := by decide +kernel
theorem dL_law_128 : decode cL_law 128 = .ok (.irem, 1) := by decide +kernel
theorem dL_law_129 : decode cL_law 129 = .ok (.iconst 4, 1) := by decide +kernel
theorem dL_law_130 : decode cL_law 130 = .ok (.if_icmp .ne 55, 3) := by decide +kernel
theorem dL_law_133 : decode cL_law 133 = .ok (.aload_n 1, 1) := by decide +kernel
theorem dL_law_134 : decode cL_law 134 = .ok (.iload 4, 2) := by decide +kernel
theorem dL_law_136 : decode cL_law 136 = .ok (.iconst 2, 1) := by decide +kernel
theorem dL_law_137 : decode cL_law 137 = .ok (.ishr, 1) := by decide +kernel
theorem dL_law_138 : decode cL_law 138 = .ok (.iconst 4, 1) := by decide +kernel
theorem dL_law_139 : decode cL_law 139 = .ok (.invokestatic 34, 3) := by decide +kernel
theorem dL_law_142 : decode cL_law 142 = .ok (.iload 4, 2) := by decide +kernel
theorem dL_law_144 : decode cL_law 144 = .ok (.iconst 3, 1) := by decide +kernel
theorem dL_law_145 : decode cL_law 145 = .ok (.ishr, 1) := by decide +kernel
theorem dL_law_146 : decode cL_law 146 = .ok (.sipush 12001, 3) := by decide +kernel
theorem dL_law_149 : decode cL_law 149 = .ok (.invokestatic 34, 3) := by decide +kernel
theorem dL_law_152 : decode cL_law 152 = .ok (.invokestatic 124, 3) := by decide +kernel
theorem dL_law_155 : decode cL_law 155 = .ok (.ifCond .eq 28, 3) := by decide +kernel
theorem dL_law_158 : decode cL_law 158 = .ok (.aload_n 2, 1) := by decide +kernel
theorem dL_law_159 : decode cL_law 159 = .ok (.iload 4, 2) := by decide +kernel
theorem dL_law_161 : decode cL_law 161 = .ok (.iconst 2, 1) := by decide +kernel
theorem dL_law_162 : decode cL_law 162 = .ok (.ishr, 1) := by decide +kernel
theorem dL_law_163 : decode cL_law 163 = .ok (.iconst 4, 1) := by decide +kernel
theorem dL_law_164 : decode cL_law 164 = .ok (.invokestatic 34, 3) := by decide +kernel
theorem dL_law_167 : decode cL_law 167 = .ok (.iload 4, 2) := by decide +kernel
theorem dL_law_169 : decode cL_law 169 = .ok (.iconst 3, 1) := by decide +kernel
theorem dL_law_170 : decode cL_law 170 = .ok (.ishr, 1) := by decide +kernel
theorem dL_law_171 : decode cL_law 171 = .ok (.sipush 12001, 3) := by decide +kernel
theorem dL_law_174 : decode cL_law 174 = .ok (.invokestatic 34, 3) := by decide +kernel
theorem dL_law_177 : decode cL_law 177 = .ok (.invokestatic 124, 3) := by decide +kernel
theorem dL_law_180 : decode cL_law 180 = .ok (.ifCond .ne 5, 3) := by decide +kernel
theorem dL_law_183 : decode cL_law 183 = .ok (.iconst 0, 1) := by decide +kernel
theorem dL_law_184 : decode cL_law 184 = .ok (.ireturn, 1) := by decide +kernel
theorem dL_law_185 : decode cL_law 185 = .ok (.iinc 3 1, 3) := by decide +kernel
theorem dL_law_188 : decode cL_law 188 = .ok (.goto (-170), 3) := by decide +kernel
theorem dL_law_191 : decode cL_law 191 = .ok (.aload_n 1, 1) := by decide +kernel
theorem dL_law_192 : decode cL_law 192 = .ok (.aload_n 2, 1) := by decide +kernel
theorem dL_law_193 : decode cL_law 193 = .ok (.invokestatic 109, 3) := by decide +kernel
theorem dL_law_196 : decode cL_law 196 = .ok (.ireturn, 1) := by decide +kernel
