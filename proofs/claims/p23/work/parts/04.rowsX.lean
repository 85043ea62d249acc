theorem dX0_init_0 : decode cX0_init 0 = .ok (.aload_n 0, 1) := by decide +kernel
theorem dX0_init_1 : decode cX0_init 1 = .ok (.invokespecial 1, 3) := by decide +kernel
theorem dX0_init_4 : decode cX0_init 4 = .ok (.aload_n 0, 1) := by decide +kernel
theorem dX0_init_5 : decode cX0_init 5 = .ok (.iconst 4, 1) := by decide +kernel
theorem dX0_init_6 : decode cX0_init 6 = .ok (.newarray .int, 2) := by decide +kernel
theorem dX0_init_8 : decode cX0_init 8 = .ok (.dup, 1) := by decide +kernel
theorem dX0_init_9 : decode cX0_init 9 = .ok (.iconst 0, 1) := by decide +kernel
theorem dX0_init_10 : decode cX0_init 10 = .ok (.iconst (-1), 1) := by decide +kernel
theorem dX0_init_11 : decode cX0_init 11 = .ok (.iastore, 1) := by decide +kernel
theorem dX0_init_12 : decode cX0_init 12 = .ok (.dup, 1) := by decide +kernel
theorem dX0_init_13 : decode cX0_init 13 = .ok (.iconst 1, 1) := by decide +kernel
theorem dX0_init_14 : decode cX0_init 14 = .ok (.iconst (-1), 1) := by decide +kernel
theorem dX0_init_15 : decode cX0_init 15 = .ok (.iastore, 1) := by decide +kernel
theorem dX0_init_16 : decode cX0_init 16 = .ok (.dup, 1) := by decide +kernel
theorem dX0_init_17 : decode cX0_init 17 = .ok (.iconst 2, 1) := by decide +kernel
theorem dX0_init_18 : decode cX0_init 18 = .ok (.iconst (-1), 1) := by decide +kernel
theorem dX0_init_19 : decode cX0_init 19 = .ok (.iastore, 1) := by decide +kernel
theorem dX0_init_20 : decode cX0_init 20 = .ok (.dup, 1) := by decide +kernel
theorem dX0_init_21 : decode cX0_init 21 = .ok (.iconst 3, 1) := by decide +kernel
theorem dX0_init_22 : decode cX0_init 22 = .ok (.iconst (-1), 1) := by decide +kernel
theorem dX0_init_23 : decode cX0_init 23 = .ok (.iastore, 1) := by decide +kernel
theorem dX0_init_24 : decode cX0_init 24 = .ok (.putfield 9, 3) := by decide +kernel
theorem dX0_init_27 : decode cX0_init 27 = .ok (.aload_n 0, 1) := by decide +kernel
theorem dX0_init_28 : decode cX0_init 28 = .ok (.iconst 4, 1) := by decide +kernel
theorem dX0_init_29 : decode cX0_init 29 = .ok (.newarray .int, 2) := by decide +kernel
theorem dX0_init_31 : decode cX0_init 31 = .ok (.putfield 13, 3) := by decide +kernel
theorem dX0_init_34 : decode cX0_init 34 = .ok (.aload_n 0, 1) := by decide +kernel
theorem dX0_init_35 : decode cX0_init 35 = .ok (.iconst 4, 1) := by decide +kernel
theorem dX0_init_36 : decode cX0_init 36 = .ok (.newarray .int, 2) := by decide +kernel
theorem dX0_init_38 : decode cX0_init 38 = .ok (.putfield 16, 3) := by decide +kernel
theorem dX0_init_41 : decode cX0_init 41 = .ok (.aload_n 0, 1) := by decide +kernel
theorem dX0_init_42 : decode cX0_init 42 = .ok (.iconst 4, 1) := by decide +kernel
theorem dX0_init_43 : decode cX0_init 43 = .ok (.newarray .int, 2) := by decide +kernel
theorem dX0_init_45 : decode cX0_init 45 = .ok (.putfield 19, 3) := by decide +kernel
theorem dX0_init_48 : decode cX0_init 48 = .ok (.aload_n 0, 1) := by decide +kernel
theorem dX0_init_49 : decode cX0_init 49 = .ok (.iconst 4, 1) := by decide +kernel
theorem dX0_init_50 : decode cX0_init 50 = .ok (.newarray .int, 2) := by decide +kernel
theorem dX0_init_52 : decode cX0_init 52 = .ok (.putfield 22, 3) := by decide +kernel
theorem dX0_init_55 : decode cX0_init 55 = .ok (.aload_n 0, 1) := by decide +kernel
theorem dX0_init_56 : decode cX0_init 56 = .ok (.iconst 4, 1) := by decide +kernel
theorem dX0_init_57 : decode cX0_init 57 = .ok (.newarray .int, 2) := by decide +kernel
theorem dX0_init_59 : decode cX0_init 59 = .ok (.putfield 25, 3) := by decide +kernel
theorem dX0_init_62 : decode cX0_init 62 = .ok (.aload_n 0, 1) := by decide +kernel
theorem dX0_init_63 : decode cX0_init 63 = .ok (.bipush 12, 2) := by decide +kernel
theorem dX0_init_65 : decode cX0_init 65 = .ok (.newarray .int, 2) := by decide +kernel
theorem dX0_init_67 : decode cX0_init 67 = .ok (.putfield 28, 3) := by decide +kernel
theorem dX0_init_70 : decode cX0_init 70 = .ok (.aload_n 0, 1) := by decide +kernel
theorem dX0_init_71 : decode cX0_init 71 = .ok (.iconst 0, 1) := by decide +kernel
theorem dX0_init_72 : decode cX0_init 72 = .ok (.putfield 31, 3) := by decide +kernel
theorem dX0_init_75 : decode cX0_init 75 = .ok (.aload_n 0, 1) := by decide +kernel
theorem dX0_init_76 : decode cX0_init 76 = .ok (.iconst 0, 1) := by decide +kernel
theorem dX0_init_77 : decode cX0_init 77 = .ok (.putfield 35, 3) := by decide +kernel
theorem dX0_init_80 : decode cX0_init 80 = .ok (.aload_n 0, 1) := by decide +kernel
theorem dX0_init_81 : decode cX0_init 81 = .ok (.bipush 100, 2) := by decide +kernel
theorem dX0_init_83 : decode cX0_init 83 = .ok (.putfield 38, 3) := by decide +kernel
theorem dX0_init_86 : decode cX0_init 86 = .ok (.aload_n 0, 1) := by decide +kernel
theorem dX0_init_87 : decode cX0_init 87 = .ok (.bipush 60, 2) := by decide +kernel
theorem dX0_init_89 : decode cX0_init 89 = .ok (.putfield 41, 3) := by decide +kernel
theorem dX0_init_92 : decode cX0_init 92 = .ok (.aload_n 0, 1) := by decide +kernel
theorem dX0_init_93 : decode cX0_init 93 = .ok (.sipush 400, 3) := by decide +kernel
theorem dX0_init_96 : decode cX0_init 96 = .ok (.putfield 44, 3) := by decide +kernel
theorem dX0_init_99 : decode cX0_init 99 = .ok (.return_, 1) := by decide +kernel
set_option maxRecDepth 20000 in
theorem ggX0_setScale_X0_requireRange : GoodIn wsX0_setScale wsX0_requireRange := goodIn_ca (goodIn_r _ [7, 8, 9] (by decide +kernel) (by decide +kernel)) (goodIn_sub (fun _ h => List.mem_cons_of_mem _ (List.mem_append_right _ h)) (by decide +kernel))
set_option maxRecDepth 20000 in
theorem gX0_setScale_X0_requireRange : GoodIn wsX0_setScale (va_wsS RX0 47 yX0_requireRange wsX0_requireRange) := goodIn_app (goodIn_of _ (by decide +kernel)) ggX0_setScale_X0_requireRange
set_option maxRecDepth 20000 in
theorem ggX0_setScale_X0_isRung : GoodIn wsX0_setScale wsX0_isRung := goodIn_r _ [13, 14, 15, 16, 6, 17, 1, 2, 18, 19, 20, 21, 22, 23, 24, 25, 26, 27, 28, 29, 30, 31, 32, 33, 34, 35, 36, 37] (by decide +kernel) (by decide +kernel)
set_option maxRecDepth 20000 in
theorem gX0_setScale_X0_isRung : GoodIn wsX0_setScale (wsV RX0 51 RX0 yX0_isRung wsX0_isRung) := goodIn_app (goodIn_of _ (by decide +kernel)) ggX0_setScale_X0_isRung
theorem dX0_setScale_0 : decode cX0_setScale 0 = .ok (.iload_n 1, 1) := by decide +kernel
theorem dX0_setScale_1 : decode cX0_setScale 1 = .ok (.iconst 0, 1) := by decide +kernel
theorem dX0_setScale_2 : decode cX0_setScale 2 = .ok (.bipush 11, 2) := by decide +kernel
theorem dX0_setScale_4 : decode cX0_setScale 4 = .ok (.invokestatic 47, 3) := by decide +kernel
theorem dX0_setScale_7 : decode cX0_setScale 7 = .ok (.iload_n 2, 1) := by decide +kernel
theorem dX0_setScale_8 : decode cX0_setScale 8 = .ok (.iconst 0, 1) := by decide +kernel
theorem dX0_setScale_9 : decode cX0_setScale 9 = .ok (.bipush 7, 2) := by decide +kernel
theorem dX0_setScale_11 : decode cX0_setScale 11 = .ok (.invokestatic 47, 3) := by decide +kernel
theorem dX0_setScale_14 : decode cX0_setScale 14 = .ok (.aload_n 0, 1) := by decide +kernel
theorem dX0_setScale_15 : decode cX0_setScale 15 = .ok (.iload_n 1, 1) := by decide +kernel
theorem dX0_setScale_16 : decode cX0_setScale 16 = .ok (.putfield 31, 3) := by decide +kernel
theorem dX0_setScale_19 : decode cX0_setScale 19 = .ok (.aload_n 0, 1) := by decide +kernel
theorem dX0_setScale_20 : decode cX0_setScale 20 = .ok (.iload_n 2, 1) := by decide +kernel
theorem dX0_setScale_21 : decode cX0_setScale 21 = .ok (.putfield 35, 3) := by decide +kernel
theorem dX0_setScale_24 : decode cX0_setScale 24 = .ok (.iconst 0, 1) := by decide +kernel
theorem dX0_setScale_25 : decode cX0_setScale 25 = .ok (.istore_n 3, 1) := by decide +kernel
theorem dX0_setScale_26 : decode cX0_setScale 26 = .ok (.iconst 0, 1) := by decide +kernel
theorem dX0_setScale_27 : decode cX0_setScale 27 = .ok (.istore 4, 2) := by decide +kernel
theorem dX0_setScale_29 : decode cX0_setScale 29 = .ok (.iload 4, 2) := by decide +kernel
theorem dX0_setScale_31 : decode cX0_setScale 31 = .ok (.iconst 4, 1) := by decide +kernel
theorem dX0_setScale_32 : decode cX0_setScale 32 = .ok (.if_icmp .ge 45, 3) := by decide +kernel
theorem dX0_setScale_35 : decode cX0_setScale 35 = .ok (.aload_n 0, 1) := by decide +kernel
theorem dX0_setScale_36 : decode cX0_setScale 36 = .ok (.getfield 9, 3) := by decide +kernel
theorem dX0_setScale_39 : decode cX0_setScale 39 = .ok (.iload 4, 2) := by decide +kernel
theorem dX0_setScale_41 : decode cX0_setScale 41 = .ok (.iaload, 1) := by decide +kernel
theorem dX0_setScale_42 : decode cX0_setScale 42 = .ok (.iconst (-1), 1) := by decide +kernel
theorem dX0_setScale_43 : decode cX0_setScale 43 = .ok (.if_icmp .eq 28, 3) := by decide +kernel
theorem dX0_setScale_46 : decode cX0_setScale 46 = .ok (.aload_n 0, 1) := by decide +kernel
theorem dX0_setScale_47 : decode cX0_setScale 47 = .ok (.aload_n 0, 1) := by decide +kernel
theorem dX0_setScale_48 : decode cX0_setScale 48 = .ok (.getfield 9, 3) := by decide +kernel
theorem dX0_setScale_51 : decode cX0_setScale 51 = .ok (.iload 4, 2) := by decide +kernel
theorem dX0_setScale_53 : decode cX0_setScale 53 = .ok (.iaload, 1) := by decide +kernel
theorem dX0_setScale_54 : decode cX0_setScale 54 = .ok (.invokevirtual 51, 3) := by decide +kernel
theorem dX0_setScale_57 : decode cX0_setScale 57 = .ok (.ifCond .ne 14, 3) := by decide +kernel
theorem dX0_setScale_60 : decode cX0_setScale 60 = .ok (.aload_n 0, 1) := by decide +kernel
theorem dX0_setScale_61 : decode cX0_setScale 61 = .ok (.getfield 9, 3) := by decide +kernel
theorem dX0_setScale_64 : decode cX0_setScale 64 = .ok (.iload 4, 2) := by decide +kernel
theorem dX0_setScale_66 : decode cX0_setScale 66 = .ok (.iconst (-1), 1) := by decide +kernel
theorem dX0_setScale_67 : decode cX0_setScale 67 = .ok (.iastore, 1) := by decide +kernel
theorem dX0_setScale_68 : decode cX0_setScale 68 = .ok (.iinc 3 1, 3) := by decide +kernel
theorem dX0_setScale_71 : decode cX0_setScale 71 = .ok (.iinc 4 1, 3) := by decide +kernel
theorem dX0_setScale_74 : decode cX0_setScale 74 = .ok (.goto (-45), 3) := by decide +kernel
theorem dX0_setScale_77 : decode cX0_setScale 77 = .ok (.iload_n 3, 1) := by decide +kernel
theorem dX0_setScale_78 : decode cX0_setScale 78 = .ok (.ireturn, 1) := by decide +kernel
set_option maxRecDepth 20000 in
theorem ggX0_setNudging_X0_requireRange : GoodIn wsX0_setNudging wsX0_requireRange := goodIn_ca (goodIn_r _ [7, 8, 9] (by decide +kernel) (by decide +kernel)) (goodIn_sub (fun _ h => List.mem_cons_of_mem _ (List.mem_append_right _ h)) (by decide +kernel))
set_option maxRecDepth 20000 in
theorem gX0_setNudging_X0_requireRange : GoodIn wsX0_setNudging (va_wsS RX0 47 yX0_requireRange wsX0_requireRange) := goodIn_app (goodIn_of _ (by decide +kernel)) ggX0_setNudging_X0_requireRange
theorem dX0_setNudging_0 : decode cX0_setNudging 0 = .ok (.iload_n 1, 1) := by decide +kernel
theorem dX0_setNudging_1 : decode cX0_setNudging 1 = .ok (.iconst 0, 1) := by decide +kernel
theorem dX0_setNudging_2 : decode cX0_setNudging 2 = .ok (.bipush 100, 2) := by decide +kernel
theorem dX0_setNudging_4 : decode cX0_setNudging 4 = .ok (.invokestatic 47, 3) := by decide +kernel
theorem dX0_setNudging_7 : decode cX0_setNudging 7 = .ok (.iload_n 2, 1) := by decide +kernel
theorem dX0_setNudging_8 : decode cX0_setNudging 8 = .ok (.iconst 0, 1) := by decide +kernel
theorem dX0_setNudging_9 : decode cX0_setNudging 9 = .ok (.sipush 600, 3) := by decide +kernel
theorem dX0_setNudging_12 : decode cX0_setNudging 12 = .ok (.invokestatic 47, 3) := by decide +kernel
theorem dX0_setNudging_15 : decode cX0_setNudging 15 = .ok (.iload_n 3, 1) := by decide +kernel
theorem dX0_setNudging_16 : decode cX0_setNudging 16 = .ok (.iconst 0, 1) := by decide +kernel
theorem dX0_setNudging_17 : decode cX0_setNudging 17 = .ok (.sipush 12000, 3) := by decide +kernel
theorem dX0_setNudging_20 : decode cX0_setNudging 20 = .ok (.invokestatic 47, 3) := by decide +kernel
theorem dX0_setNudging_23 : decode cX0_setNudging 23 = .ok (.aload_n 0, 1) := by decide +kernel
theorem dX0_setNudging_24 : decode cX0_setNudging 24 = .ok (.iload_n 1, 1) := by decide +kernel
theorem dX0_setNudging_25 : decode cX0_setNudging 25 = .ok (.putfield 38, 3) := by decide +kernel
theorem dX0_setNudging_28 : decode cX0_setNudging 28 = .ok (.aload_n 0, 1) := by decide +kernel
theorem dX0_setNudging_29 : decode cX0_setNudging 29 = .ok (.iload_n 2, 1) := by decide +kernel
theorem dX0_setNudging_30 : decode cX0_setNudging 30 = .ok (.putfield 41, 3) := by decide +kernel
theorem dX0_setNudging_33 : decode cX0_setNudging 33 = .ok (.aload_n 0, 1) := by decide +kernel
theorem dX0_setNudging_34 : decode cX0_setNudging 34 = .ok (.iload_n 3, 1) := by decide +kernel
theorem dX0_setNudging_35 : decode cX0_setNudging 35 = .ok (.putfield 44, 3) := by decide +kernel
theorem dX0_setNudging_38 : decode cX0_setNudging 38 = .ok (.return_, 1) := by decide +kernel
set_option maxRecDepth 20000 in
theorem ggX0_sing_X0_requireWren : GoodIn wsX0_sing wsX0_requireWren := goodIn_ca (goodIn_r _ [4, 5, 6] (by decide +kernel) (by decide +kernel)) (goodIn_sub (fun _ h => List.mem_cons_of_mem _ (List.mem_append_left _ (List.mem_append_right _ h))) (by decide +kernel))
set_option maxRecDepth 20000 in
theorem gX0_sing_X0_requireWren : GoodIn wsX0_sing (va_wsS RX0 55 yX0_requireWren wsX0_requireWren) := goodIn_app (goodIn_of _ (by decide +kernel)) ggX0_sing_X0_requireWren
set_option maxRecDepth 20000 in
theorem ggX0_sing_X0_requirePitch : GoodIn wsX0_sing wsX0_requirePitch := goodIn_ca (goodIn_r _ [9, 10, 11, 3, 12, 13, 14] (by decide +kernel) (by decide +kernel)) (goodIn_sub (fun _ h => List.mem_cons_of_mem _ (List.mem_append_right _ h)) (by decide +kernel))
set_option maxRecDepth 20000 in
theorem gX0_sing_X0_requirePitch : GoodIn wsX0_sing (va_wsS RX0 59 yX0_requirePitch wsX0_requirePitch) := goodIn_app (goodIn_of _ (by decide +kernel)) ggX0_sing_X0_requirePitch
set_option maxRecDepth 20000 in
theorem ggX0_sing_X0_singFrame : GoodIn wsX0_sing wsX0_singFrame := goodIn_r _ [18, 19, 20, 21, 22, 23, 24, 25, 26, 27, 28, 3, 29, 30, 31, 32, 33, 34, 35, 36, 37, 38, 39, 40, 41, 42, 43, 44, 45, 46, 47, 48, 49, 50, 51, 52, 53, 54, 55, 56, 57, 58, 59, 60, 61, 62, 63, 64, 65, 66, 67, 68, 69, 70, 71, 72, 73, 74, 75, 76, 77, 78, 79, 80, 81, 82, 83, 84, 85, 86, 87, 88, 89, 90, 91, 92, 93, 94, 95, 96, 97, 98, 99, 100, 101, 102] (by decide +kernel) (by decide +kernel)
set_option maxRecDepth 20000 in
theorem gX0_sing_X0_singFrame : GoodIn wsX0_sing (wsV RX0 62 RX0 yX0_singFrame wsX0_singFrame) := goodIn_app (goodIn_of _ (by decide +kernel)) ggX0_sing_X0_singFrame
theorem dX0_sing_0 : decode cX0_sing 0 = .ok (.iload_n 1, 1) := by decide +kernel
theorem dX0_sing_1 : decode cX0_sing 1 = .ok (.invokestatic 55, 3) := by decide +kernel
theorem dX0_sing_4 : decode cX0_sing 4 = .ok (.iload_n 2, 1) := by decide +kernel
theorem dX0_sing_5 : decode cX0_sing 5 = .ok (.invokestatic 59, 3) := by decide +kernel
theorem dX0_sing_8 : decode cX0_sing 8 = .ok (.aload_n 0, 1) := by decide +kernel
theorem dX0_sing_9 : decode cX0_sing 9 = .ok (.iload_n 1, 1) := by decide +kernel
theorem dX0_sing_10 : decode cX0_sing 10 = .ok (.iload_n 2, 1) := by decide +kernel
theorem dX0_sing_11 : decode cX0_sing 11 = .ok (.invokevirtual 62, 3) := by decide +kernel
theorem dX0_sing_14 : decode cX0_sing 14 = .ok (.ireturn, 1) := by decide +kernel
set_option maxRecDepth 20000 in
theorem ggX0_slide_X0_requireWren : GoodIn wsX0_slide wsX0_requireWren := goodIn_ca (goodIn_r _ [5, 6, 7] (by decide +kernel) (by decide +kernel)) (goodIn_sub (fun _ h => List.mem_cons_of_mem _ (List.mem_append_left _ (List.mem_append_right _ h))) (by decide +kernel))
set_option maxRecDepth 20000 in
theorem gX0_slide_X0_requireWren : GoodIn wsX0_slide (va_wsS RX0 55 yX0_requireWren wsX0_requireWren) := goodIn_app (goodIn_of _ (by decide +kernel)) ggX0_slide_X0_requireWren
set_option maxRecDepth 20000 in
theorem ggX0_slide_X0_requirePitch : GoodIn wsX0_slide wsX0_requirePitch := goodIn_ca (goodIn_r _ [10, 11, 12, 4, 13, 14, 15] (by decide +kernel) (by decide +kernel)) (goodIn_sub (fun _ h => List.mem_cons_of_mem _ (List.mem_append_right _ h)) (by decide +kernel))
set_option maxRecDepth 20000 in
theorem gX0_slide_X0_requirePitch : GoodIn wsX0_slide (va_wsS RX0 59 yX0_requirePitch wsX0_requirePitch) := goodIn_app (goodIn_of _ (by decide +kernel)) ggX0_slide_X0_requirePitch
set_option maxRecDepth 20000 in
theorem ggX0_slide_X0_requireRange : GoodIn wsX0_slide wsX0_requireRange := goodIn_ca (goodIn_r _ [13, 14, 15] (by decide +kernel) (by decide +kernel)) (goodIn_sub (fun _ h => List.mem_cons_of_mem _ (List.mem_append_right _ h)) (by decide +kernel))
set_option maxRecDepth 20000 in
theorem gX0_slide_X0_requireRange : GoodIn wsX0_slide (va_wsS RX0 47 yX0_requireRange wsX0_requireRange) := goodIn_app (goodIn_of _ (by decide +kernel)) ggX0_slide_X0_requireRange
set_option maxRecDepth 20000 in
theorem ggX0_slide_J9_floorDiv_7cf53 : GoodIn wsX0_slide wsJ9_floorDiv_7cf53 := goodIn_r _ [19] (by decide +kernel) (by decide +kernel)
set_option maxRecDepth 20000 in
theorem gX0_slide_J9_floorDiv_7cf53 : GoodIn wsX0_slide (va_wsS RX0 66 yJ9_floorDiv_7cf53 wsJ9_floorDiv_7cf53) := goodIn_app (goodIn_of _ (by decide +kernel)) ggX0_slide_J9_floorDiv_7cf53
set_option maxRecDepth 20000 in
theorem ggX0_slide_X0_singFrame : GoodIn wsX0_slide wsX0_singFrame := goodIn_r _ [23, 24, 25, 26, 1, 27, 28, 29, 30, 31, 32, 4, 33, 34, 35, 36, 37, 38, 39, 40, 41, 42, 43, 44, 45, 46, 47, 48, 49, 50, 51, 52, 53, 54, 55, 56, 57, 58, 18, 59, 60, 61, 62, 63, 64, 65, 66, 67, 68, 69, 70, 71, 72, 73, 74, 75, 76, 77, 78, 79, 80, 81, 82, 83, 84, 85, 86, 87, 88, 89, 90, 91, 92, 93, 94, 95, 96, 97, 98, 99, 100, 101, 102, 103, 104, 105] (by decide +kernel) (by decide +kernel)
set_option maxRecDepth 20000 in
theorem gX0_slide_X0_singFrame : GoodIn wsX0_slide (wsV RX0 62 RX0 yX0_singFrame wsX0_singFrame) := goodIn_app (goodIn_of _ (by decide +kernel)) ggX0_slide_X0_singFrame
theorem dX0_slide_0 : decode cX0_slide 0 = .ok (.iload_n 1, 1) := by decide +kernel
theorem dX0_slide_1 : decode cX0_slide 1 = .ok (.invokestatic 55, 3) := by decide +kernel
theorem dX0_slide_4 : decode cX0_slide 4 = .ok (.iload_n 2, 1) := by decide +kernel
theorem dX0_slide_5 : decode cX0_slide 5 = .ok (.invokestatic 59, 3) := by decide +kernel
theorem dX0_slide_8 : decode cX0_slide 8 = .ok (.iload_n 3, 1) := by decide +kernel
theorem dX0_slide_9 : decode cX0_slide 9 = .ok (.invokestatic 59, 3) := by decide +kernel
theorem dX0_slide_12 : decode cX0_slide 12 = .ok (.iload 4, 2) := by decide +kernel
theorem dX0_slide_14 : decode cX0_slide 14 = .ok (.iconst 2, 1) := by decide +kernel
theorem dX0_slide_15 : decode cX0_slide 15 = .ok (.bipush 50, 2) := by decide +kernel
theorem dX0_slide_17 : decode cX0_slide 17 = .ok (.invokestatic 47, 3) := by decide +kernel
theorem dX0_slide_20 : decode cX0_slide 20 = .ok (.aload_n 0, 1) := by decide +kernel
theorem dX0_slide_21 : decode cX0_slide 21 = .ok (.getfield 19, 3) := by decide +kernel
theorem dX0_slide_24 : decode cX0_slide 24 = .ok (.iload_n 1, 1) := by decide +kernel
theorem dX0_slide_25 : decode cX0_slide 25 = .ok (.iaload, 1) := by decide +kernel
theorem dX0_slide_26 : decode cX0_slide 26 = .ok (.istore 5, 2) := by decide +kernel
theorem dX0_slide_28 : decode cX0_slide 28 = .ok (.iconst 0, 1) := by decide +kernel
theorem dX0_slide_29 : decode cX0_slide 29 = .ok (.istore 6, 2) := by decide +kernel
theorem dX0_slide_31 : decode cX0_slide 31 = .ok (.iload 6, 2) := by decide +kernel
theorem dX0_slide_33 : decode cX0_slide 33 = .ok (.iload 4, 2) := by decide +kernel
theorem dX0_slide_35 : decode cX0_slide 35 = .ok (.if_icmp .ge 30, 3) := by decide +kernel
theorem dX0_slide_38 : decode cX0_slide 38 = .ok (.aload_n 0, 1) := by decide +kernel
theorem dX0_slide_39 : decode cX0_slide 39 = .ok (.iload_n 1, 1) := by decide +kernel
theorem dX0_slide_40 : decode cX0_slide 40 = .ok (.iload_n 2, 1) := by decide +kernel
theorem dX0_slide_41 : decode cX0_slide 41 = .ok (.iload_n 3, 1) := by decide +kernel
theorem dX0_slide_42 : decode cX0_slide 42 = .ok (.iload_n 2, 1) := by decide +kernel
theorem dX0_slide_43 : decode cX0_slide 43 = .ok (.isub, 1) := by decide +kernel
theorem dX0_slide_44 : decode cX0_slide 44 = .ok (.iload 6, 2) := by decide +kernel
theorem dX0_slide_46 : decode cX0_slide 46 = .ok (.imul, 1) := by decide +kernel
theorem dX0_slide_47 : decode cX0_slide 47 = .ok (.iload 4, 2) := by decide +kernel
theorem dX0_slide_49 : decode cX0_slide 49 = .ok (.iconst 1, 1) := by decide +kernel
theorem dX0_slide_50 : decode cX0_slide 50 = .ok (.isub, 1) := by decide +kernel
theorem dX0_slide_51 : decode cX0_slide 51 = .ok (.invokestatic 66, 3) := by decide +kernel
theorem dX0_slide_54 : decode cX0_slide 54 = .ok (.iadd, 1) := by decide +kernel
theorem dX0_slide_55 : decode cX0_slide 55 = .ok (.invokevirtual 62, 3) := by decide +kernel
theorem dX0_slide_58 : decode cX0_slide 58 = .ok (.pop, 1) := by decide +kernel
theorem dX0_slide_59 : decode cX0_slide 59 = .ok (.iinc 6 1, 3) := by decide +kernel
theorem dX0_slide_62 : decode cX0_slide 62 = .ok (.goto (-31), 3) := by decide +kernel
theorem dX0_slide_65 : decode cX0_slide 65 = .ok (.aload_n 0, 1) := by decide +kernel
theorem dX0_slide_66 : decode cX0_slide 66 = .ok (.getfield 19, 3) := by decide +kernel
theorem dX0_slide_69 : decode cX0_slide 69 = .ok (.iload_n 1, 1) := by decide +kernel
theorem dX0_slide_70 : decode cX0_slide 70 = .ok (.iaload, 1) := by decide +kernel
theorem dX0_slide_71 : decode cX0_slide 71 = .ok (.iload 5, 2) := by decide +kernel
theorem dX0_slide_73 : decode cX0_slide 73 = .ok (.isub, 1) := by decide +kernel
theorem dX0_slide_74 : decode cX0_slide 74 = .ok (.ireturn, 1) := by decide +kernel
set_option maxRecDepth 20000 in
theorem ggX0_rest_X0_requireWren : GoodIn wsX0_rest wsX0_requireWren := goodIn_ca (goodIn_r _ [6, 7, 8] (by decide +kernel) (by decide +kernel)) (goodIn_sub (fun _ h => List.mem_cons_of_mem _ (List.mem_append_right _ h)) (by decide +kernel))
set_option maxRecDepth 20000 in
theorem gX0_rest_X0_requireWren : GoodIn wsX0_rest (va_wsS RX0 55 yX0_requireWren wsX0_requireWren) := goodIn_app (goodIn_of _ (by decide +kernel)) ggX0_rest_X0_requireWren
theorem dX0_rest_0 : decode cX0_rest 0 = .ok (.iload_n 1, 1) := by decide +kernel
theorem dX0_rest_1 : decode cX0_rest 1 = .ok (.invokestatic 55, 3) := by decide +kernel
theorem dX0_rest_4 : decode cX0_rest 4 = .ok (.aload_n 0, 1) := by decide +kernel
theorem dX0_rest_5 : decode cX0_rest 5 = .ok (.getfield 9, 3) := by decide +kernel
theorem dX0_rest_8 : decode cX0_rest 8 = .ok (.iload_n 1, 1) := by decide +kernel
theorem dX0_rest_9 : decode cX0_rest 9 = .ok (.iaload, 1) := by decide +kernel
theorem dX0_rest_10 : decode cX0_rest 10 = .ok (.istore_n 2, 1) := by decide +kernel
theorem dX0_rest_11 : decode cX0_rest 11 = .ok (.aload_n 0, 1) := by decide +kernel
theorem dX0_rest_12 : decode cX0_rest 12 = .ok (.getfield 9, 3) := by decide +kernel
theorem dX0_rest_15 : decode cX0_rest 15 = .ok (.iload_n 1, 1) := by decide +kernel
theorem dX0_rest_16 : decode cX0_rest 16 = .ok (.iconst (-1), 1) := by decide +kernel
theorem dX0_rest_17 : decode cX0_rest 17 = .ok (.iastore, 1) := by decide +kernel
theorem dX0_rest_18 : decode cX0_rest 18 = .ok (.aload_n 0, 1) := by decide +kernel
theorem dX0_rest_19 : decode cX0_rest 19 = .ok (.getfield 13, 3) := by decide +kernel
theorem dX0_rest_22 : decode cX0_rest 22 = .ok (.iload_n 1, 1) := by decide +kernel
theorem dX0_rest_23 : decode cX0_rest 23 = .ok (.iconst 0, 1) := by decide +kernel
theorem dX0_rest_24 : decode cX0_rest 24 = .ok (.iastore, 1) := by decide +kernel
theorem dX0_rest_25 : decode cX0_rest 25 = .ok (.iload_n 2, 1) := by decide +kernel
theorem dX0_rest_26 : decode cX0_rest 26 = .ok (.ireturn, 1) := by decide +kernel
set_option maxRecDepth 20000 in
theorem ggX0_rungs_X0_isRung : GoodIn wsX0_rungs wsX0_isRung := goodIn_r _ [5, 6, 7, 8, 4, 9, 10, 11, 12, 13, 14, 15, 16, 17, 18, 19, 20, 21, 22, 23, 24, 25, 26, 27, 28, 29, 30, 31] (by decide +kernel) (by decide +kernel)
set_option maxRecDepth 20000 in
theorem gX0_rungs_X0_isRung : GoodIn wsX0_rungs (wsV RX0 51 RX0 yX0_isRung wsX0_isRung) := goodIn_app (goodIn_of _ (by decide +kernel)) ggX0_rungs_X0_isRung
theorem dX0_rungs_0 : decode cX0_rungs 0 = .ok (.iconst 0, 1) := by decide +kernel
theorem dX0_rungs_1 : decode cX0_rungs 1 = .ok (.istore_n 1, 1) := by decide +kernel
theorem dX0_rungs_2 : decode cX0_rungs 2 = .ok (.iconst 0, 1) := by decide +kernel
theorem dX0_rungs_3 : decode cX0_rungs 3 = .ok (.istore_n 2, 1) := by decide +kernel
theorem dX0_rungs_4 : decode cX0_rungs 4 = .ok (.iload_n 2, 1) := by decide +kernel
theorem dX0_rungs_5 : decode cX0_rungs 5 = .ok (.sipush 12000, 3) := by decide +kernel
theorem dX0_rungs_8 : decode cX0_rungs 8 = .ok (.if_icmp .gt 20, 3) := by decide +kernel
theorem dX0_rungs_11 : decode cX0_rungs 11 = .ok (.aload_n 0, 1) := by decide +kernel
theorem dX0_rungs_12 : decode cX0_rungs 12 = .ok (.iload_n 2, 1) := by decide +kernel
theorem dX0_rungs_13 : decode cX0_rungs 13 = .ok (.invokevirtual 51, 3) := by decide +kernel
theorem dX0_rungs_16 : decode cX0_rungs 16 = .ok (.ifCond .eq 6, 3) := by decide +kernel
theorem dX0_rungs_19 : decode cX0_rungs 19 = .ok (.iinc 1 1, 3) := by decide +kernel
theorem dX0_rungs_22 : decode cX0_rungs 22 = .ok (.iinc 2 100, 3) := by decide +kernel
theorem dX0_rungs_25 : decode cX0_rungs 25 = .ok (.goto (-21), 3) := by decide +kernel
theorem dX0_rungs_28 : decode cX0_rungs 28 = .ok (.iload_n 1, 1) := by decide +kernel
theorem dX0_rungs_29 : decode cX0_rungs 29 = .ok (.ireturn, 1) := by decide +kernel
set_option maxRecDepth 20000 in
theorem ggX0_nearest_X0_requirePitch : GoodIn wsX0_nearest wsX0_requirePitch := goodIn_ca (goodIn_r _ [4, 5, 6, 3, 7, 8, 9] (by decide +kernel) (by decide +kernel)) (goodIn_sub (fun _ h => List.mem_cons_of_mem _ (List.mem_append_right _ h)) (by decide +kernel))
set_option maxRecDepth 20000 in
theorem gX0_nearest_X0_requirePitch : GoodIn wsX0_nearest (va_wsS RX0 59 yX0_requirePitch wsX0_requirePitch) := goodIn_app (goodIn_of _ (by decide +kernel)) ggX0_nearest_X0_requirePitch
set_option maxRecDepth 20000 in
theorem ggX0_nearest_X0_nearestRung : GoodIn wsX0_nearest wsX0_nearestRung := goodIn_r _ [13, 14, 15, 16, 3, 17, 18, 19, 20, 21, 22, 23, 24, 25, 26, 27, 28, 29, 30, 31, 32, 33, 34, 35, 36, 37, 38, 39, 40, 41, 42, 43, 44, 45, 46, 47] (by decide +kernel) (by decide +kernel)
set_option maxRecDepth 20000 in
theorem gX0_nearest_X0_nearestRung : GoodIn wsX0_nearest (wsV RX0 71 RX0 yX0_nearestRung wsX0_nearestRung) := goodIn_app (goodIn_of _ (by decide +kernel)) ggX0_nearest_X0_nearestRung
theorem dX0_nearest_0 : decode cX0_nearest 0 = .ok (.iload_n 1, 1) := by decide +kernel
theorem dX0_nearest_1 : decode cX0_nearest 1 = .ok (.invokestatic 59, 3) := by decide +kernel
theorem dX0_nearest_4 : decode cX0_nearest 4 = .ok (.aload_n 0, 1) := by decide +kernel
theorem dX0_nearest_5 : decode cX0_nearest 5 = .ok (.iload_n 1, 1) := by decide +kernel
theorem dX0_nearest_6 : decode cX0_nearest 6 = .ok (.invokevirtual 71, 3) := by decide +kernel
theorem dX0_nearest_9 : decode cX0_nearest 9 = .ok (.ireturn, 1) := by decide +kernel
set_option maxRecDepth 20000 in
theorem ggX0_rung_X0_isRung : GoodIn wsX0_rung wsX0_isRung := goodIn_r _ [7, 8, 9, 10, 6, 11, 12, 13, 14, 15, 16, 17, 18, 19, 20, 21, 22, 23, 24, 25, 26, 27, 28, 29, 30, 31, 32, 33] (by decide +kernel) (by decide +kernel)
set_option maxRecDepth 20000 in
theorem gX0_rung_X0_isRung : GoodIn wsX0_rung (wsV RX0 51 RX0 yX0_isRung wsX0_isRung) := goodIn_app (goodIn_of _ (by decide +kernel)) ggX0_rung_X0_isRung
theorem dX0_rung_0 : decode cX0_rung 0 = .ok (.iconst 0, 1) := by decide +kernel
theorem dX0_rung_1 : decode cX0_rung 1 = .ok (.istore_n 2, 1) := by decide +kernel
theorem dX0_rung_2 : decode cX0_rung 2 = .ok (.iconst 0, 1) := by decide +kernel
theorem dX0_rung_3 : decode cX0_rung 3 = .ok (.istore_n 3, 1) := by decide +kernel
theorem dX0_rung_4 : decode cX0_rung 4 = .ok (.iload_n 3, 1) := by decide +kernel
theorem dX0_rung_5 : decode cX0_rung 5 = .ok (.sipush 12000, 3) := by decide +kernel
theorem dX0_rung_8 : decode cX0_rung 8 = .ok (.if_icmp .gt 27, 3) := by decide +kernel
theorem dX0_rung_11 : decode cX0_rung 11 = .ok (.aload_n 0, 1) := by decide +kernel
theorem dX0_rung_12 : decode cX0_rung 12 = .ok (.iload_n 3, 1) := by decide +kernel
theorem dX0_rung_13 : decode cX0_rung 13 = .ok (.invokevirtual 51, 3) := by decide +kernel
theorem dX0_rung_16 : decode cX0_rung 16 = .ok (.ifCond .eq 13, 3) := by decide +kernel
theorem dX0_rung_19 : decode cX0_rung 19 = .ok (.iload_n 2, 1) := by decide +kernel
theorem dX0_rung_20 : decode cX0_rung 20 = .ok (.iload_n 1, 1) := by decide +kernel
theorem dX0_rung_21 : decode cX0_rung 21 = .ok (.if_icmp .ne 5, 3) := by decide +kernel
theorem dX0_rung_24 : decode cX0_rung 24 = .ok (.iload_n 3, 1) := by decide +kernel
theorem dX0_rung_25 : decode cX0_rung 25 = .ok (.ireturn, 1) := by decide +kernel
theorem dX0_rung_26 : decode cX0_rung 26 = .ok (.iinc 2 1, 3) := by decide +kernel
theorem dX0_rung_29 : decode cX0_rung 29 = .ok (.iinc 3 100, 3) := by decide +kernel
theorem dX0_rung_32 : decode cX0_rung 32 = .ok (.goto (-28), 3) := by decide +kernel
theorem dX0_rung_35 : decode cX0_rung 35 = .ok (.new 75, 3) := by decide +kernel
theorem dX0_rung_38 : decode cX0_rung 38 = .ok (.dup, 1) := by decide +kernel
theorem dX0_rung_39 : decode cX0_rung 39 = .ok (.ldc 77, 2) := by decide +kernel
theorem dX0_rung_41 : decode cX0_rung 41 = .ok (.invokespecial 79, 3) := by decide +kernel
theorem dX0_rung_44 : decode cX0_rung 44 = .ok (.athrow, 1) := by decide +kernel
set_option maxRecDepth 20000 in
theorem ggX0_stepOf_X0_requirePitch : GoodIn wsX0_stepOf wsX0_requirePitch := goodIn_ca (goodIn_r _ [4, 5, 6, 3, 7, 8, 9] (by decide +kernel) (by decide +kernel)) (goodIn_sub (fun _ h => List.mem_cons_of_mem _ (List.mem_append_right _ h)) (by decide +kernel))
set_option maxRecDepth 20000 in
theorem gX0_stepOf_X0_requirePitch : GoodIn wsX0_stepOf (va_wsS RX0 59 yX0_requirePitch wsX0_requirePitch) := goodIn_app (goodIn_of _ (by decide +kernel)) ggX0_stepOf_X0_requirePitch
set_option maxRecDepth 20000 in
theorem ggX0_stepOf_X0_stepAt : GoodIn wsX0_stepOf wsX0_stepAt := goodIn_r _ [13, 14, 15, 16, 17, 3, 18, 19, 20, 21, 22, 23, 24, 25, 26, 27, 28, 29, 30, 31, 32, 33, 34, 35] (by decide +kernel) (by decide +kernel)
set_option maxRecDepth 20000 in
theorem gX0_stepOf_X0_stepAt : GoodIn wsX0_stepOf (wsV RX0 82 RX0 yX0_stepAt wsX0_stepAt) := goodIn_app (goodIn_of _ (by decide +kernel)) ggX0_stepOf_X0_stepAt
theorem dX0_stepOf_0 : decode cX0_stepOf 0 = .ok (.iload_n 1, 1) := by decide +kernel
theorem dX0_stepOf_1 : decode cX0_stepOf 1 = .ok (.invokestatic 59, 3) := by decide +kernel
theorem dX0_stepOf_4 : decode cX0_stepOf 4 = .ok (.aload_n 0, 1) := by decide +kernel
theorem dX0_stepOf_5 : decode cX0_stepOf 5 = .ok (.iload_n 1, 1) := by decide +kernel
theorem dX0_stepOf_6 : decode cX0_stepOf 6 = .ok (.invokevirtual 82, 3) := by decide +kernel
theorem dX0_stepOf_9 : decode cX0_stepOf 9 = .ok (.ireturn, 1) := by decide +kernel
set_option maxRecDepth 20000 in
theorem ggX0_rungOf_X0_requireWren : GoodIn wsX0_rungOf wsX0_requireWren := goodIn_ca (goodIn_r _ [5, 6, 7] (by decide +kernel) (by decide +kernel)) (goodIn_sub (fun _ h => List.mem_cons_of_mem _ (List.mem_append_right _ h)) (by decide +kernel))
set_option maxRecDepth 20000 in
theorem gX0_rungOf_X0_requireWren : GoodIn wsX0_rungOf (va_wsS RX0 55 yX0_requireWren wsX0_requireWren) := goodIn_app (goodIn_of _ (by decide +kernel)) ggX0_rungOf_X0_requireWren
theorem dX0_rungOf_0 : decode cX0_rungOf 0 = .ok (.iload_n 1, 1) := by decide +kernel
theorem dX0_rungOf_1 : decode cX0_rungOf 1 = .ok (.invokestatic 55, 3) := by decide +kernel
theorem dX0_rungOf_4 : decode cX0_rungOf 4 = .ok (.aload_n 0, 1) := by decide +kernel
theorem dX0_rungOf_5 : decode cX0_rungOf 5 = .ok (.getfield 9, 3) := by decide +kernel
theorem dX0_rungOf_8 : decode cX0_rungOf 8 = .ok (.iload_n 1, 1) := by decide +kernel
theorem dX0_rungOf_9 : decode cX0_rungOf 9 = .ok (.iaload, 1) := by decide +kernel
theorem dX0_rungOf_10 : decode cX0_rungOf 10 = .ok (.ireturn, 1) := by decide +kernel
set_option maxRecDepth 20000 in
theorem ggX0_nudgeOf_X0_requireWren : GoodIn wsX0_nudgeOf wsX0_requireWren := goodIn_ca (goodIn_r _ [5, 6, 7] (by decide +kernel) (by decide +kernel)) (goodIn_sub (fun _ h => List.mem_cons_of_mem _ (List.mem_append_right _ h)) (by decide +kernel))
set_option maxRecDepth 20000 in
theorem gX0_nudgeOf_X0_requireWren : GoodIn wsX0_nudgeOf (va_wsS RX0 55 yX0_requireWren wsX0_requireWren) := goodIn_app (goodIn_of _ (by decide +kernel)) ggX0_nudgeOf_X0_requireWren
theorem dX0_nudgeOf_0 : decode cX0_nudgeOf 0 = .ok (.iload_n 1, 1) := by decide +kernel
theorem dX0_nudgeOf_1 : decode cX0_nudgeOf 1 = .ok (.invokestatic 55, 3) := by decide +kernel
theorem dX0_nudgeOf_4 : decode cX0_nudgeOf 4 = .ok (.aload_n 0, 1) := by decide +kernel
theorem dX0_nudgeOf_5 : decode cX0_nudgeOf 5 = .ok (.getfield 13, 3) := by decide +kernel
theorem dX0_nudgeOf_8 : decode cX0_nudgeOf 8 = .ok (.iload_n 1, 1) := by decide +kernel
theorem dX0_nudgeOf_9 : decode cX0_nudgeOf 9 = .ok (.iaload, 1) := by decide +kernel
theorem dX0_nudgeOf_10 : decode cX0_nudgeOf 10 = .ok (.ireturn, 1) := by decide +kernel
set_option maxRecDepth 20000 in
theorem ggX0_framesOf_X0_requireWren : GoodIn wsX0_framesOf wsX0_requireWren := goodIn_ca (goodIn_r _ [5, 6, 7] (by decide +kernel) (by decide +kernel)) (goodIn_sub (fun _ h => List.mem_cons_of_mem _ (List.mem_append_right _ h)) (by decide +kernel))
set_option maxRecDepth 20000 in
theorem gX0_framesOf_X0_requireWren : GoodIn wsX0_framesOf (va_wsS RX0 55 yX0_requireWren wsX0_requireWren) := goodIn_app (goodIn_of _ (by decide +kernel)) ggX0_framesOf_X0_requireWren
theorem dX0_framesOf_0 : decode cX0_framesOf 0 = .ok (.iload_n 1, 1) := by decide +kernel
theorem dX0_framesOf_1 : decode cX0_framesOf 1 = .ok (.invokestatic 55, 3) := by decide +kernel
theorem dX0_framesOf_4 : decode cX0_framesOf 4 = .ok (.aload_n 0, 1) := by decide +kernel
theorem dX0_framesOf_5 : decode cX0_framesOf 5 = .ok (.getfield 16, 3) := by decide +kernel
theorem dX0_framesOf_8 : decode cX0_framesOf 8 = .ok (.iload_n 1, 1) := by decide +kernel
theorem dX0_framesOf_9 : decode cX0_framesOf 9 = .ok (.iaload, 1) := by decide +kernel
theorem dX0_framesOf_10 : decode cX0_framesOf 10 = .ok (.ireturn, 1) := by decide +kernel
set_option maxRecDepth 20000 in
theorem ggX0_changesOf_X0_requireWren : GoodIn wsX0_changesOf wsX0_requireWren := goodIn_ca (goodIn_r _ [5, 6, 7] (by decide +kernel) (by decide +kernel)) (goodIn_sub (fun _ h => List.mem_cons_of_mem _ (List.mem_append_right _ h)) (by decide +kernel))
set_option maxRecDepth 20000 in
theorem gX0_changesOf_X0_requireWren : GoodIn wsX0_changesOf (va_wsS RX0 55 yX0_requireWren wsX0_requireWren) := goodIn_app (goodIn_of _ (by decide +kernel)) ggX0_changesOf_X0_requireWren
theorem dX0_changesOf_0 : decode cX0_changesOf 0 = .ok (.iload_n 1, 1) := by decide +kernel
theorem dX0_changesOf_1 : decode cX0_changesOf 1 = .ok (.invokestatic 55, 3) := by decide +kernel
theorem dX0_changesOf_4 : decode cX0_changesOf 4 = .ok (.aload_n 0, 1) := by decide +kernel
theorem dX0_changesOf_5 : decode cX0_changesOf 5 = .ok (.getfield 19, 3) := by decide +kernel
theorem dX0_changesOf_8 : decode cX0_changesOf 8 = .ok (.iload_n 1, 1) := by decide +kernel
theorem dX0_changesOf_9 : decode cX0_changesOf 9 = .ok (.iaload, 1) := by decide +kernel
theorem dX0_changesOf_10 : decode cX0_changesOf 10 = .ok (.ireturn, 1) := by decide +kernel
set_option maxRecDepth 20000 in
theorem ggX0_leapsOf_X0_requireWren : GoodIn wsX0_leapsOf wsX0_requireWren := goodIn_ca (goodIn_r _ [5, 6, 7] (by decide +kernel) (by decide +kernel)) (goodIn_sub (fun _ h => List.mem_cons_of_mem _ (List.mem_append_right _ h)) (by decide +kernel))
set_option maxRecDepth 20000 in
theorem gX0_leapsOf_X0_requireWren : GoodIn wsX0_leapsOf (va_wsS RX0 55 yX0_requireWren wsX0_requireWren) := goodIn_app (goodIn_of _ (by decide +kernel)) ggX0_leapsOf_X0_requireWren
theorem dX0_leapsOf_0 : decode cX0_leapsOf 0 = .ok (.iload_n 1, 1) := by decide +kernel
theorem dX0_leapsOf_1 : decode cX0_leapsOf 1 = .ok (.invokestatic 55, 3) := by decide +kernel
theorem dX0_leapsOf_4 : decode cX0_leapsOf 4 = .ok (.aload_n 0, 1) := by decide +kernel
theorem dX0_leapsOf_5 : decode cX0_leapsOf 5 = .ok (.getfield 22, 3) := by decide +kernel
theorem dX0_leapsOf_8 : decode cX0_leapsOf 8 = .ok (.iload_n 1, 1) := by decide +kernel
theorem dX0_leapsOf_9 : decode cX0_leapsOf 9 = .ok (.iaload, 1) := by decide +kernel
theorem dX0_leapsOf_10 : decode cX0_leapsOf 10 = .ok (.ireturn, 1) := by decide +kernel
set_option maxRecDepth 20000 in
theorem ggX0_cleanOf_X0_requireWren : GoodIn wsX0_cleanOf wsX0_requireWren := goodIn_ca (goodIn_r _ [5, 6, 7] (by decide +kernel) (by decide +kernel)) (goodIn_sub (fun _ h => List.mem_cons_of_mem _ (List.mem_append_right _ h)) (by decide +kernel))
set_option maxRecDepth 20000 in
theorem gX0_cleanOf_X0_requireWren : GoodIn wsX0_cleanOf (va_wsS RX0 55 yX0_requireWren wsX0_requireWren) := goodIn_app (goodIn_of _ (by decide +kernel)) ggX0_cleanOf_X0_requireWren
theorem dX0_cleanOf_0 : decode cX0_cleanOf 0 = .ok (.iload_n 1, 1) := by decide +kernel
theorem dX0_cleanOf_1 : decode cX0_cleanOf 1 = .ok (.invokestatic 55, 3) := by decide +kernel
theorem dX0_cleanOf_4 : decode cX0_cleanOf 4 = .ok (.aload_n 0, 1) := by decide +kernel
theorem dX0_cleanOf_5 : decode cX0_cleanOf 5 = .ok (.getfield 25, 3) := by decide +kernel
theorem dX0_cleanOf_8 : decode cX0_cleanOf 8 = .ok (.iload_n 1, 1) := by decide +kernel
theorem dX0_cleanOf_9 : decode cX0_cleanOf 9 = .ok (.iaload, 1) := by decide +kernel
theorem dX0_cleanOf_10 : decode cX0_cleanOf 10 = .ok (.ireturn, 1) := by decide +kernel
set_option maxRecDepth 20000 in
theorem ggX0_framesToRung_X0_requireWren : GoodIn wsX0_framesToRung wsX0_requireWren := goodIn_ca (goodIn_r _ [5, 6, 7] (by decide +kernel) (by decide +kernel)) (goodIn_sub (fun _ h => List.mem_cons_of_mem _ (List.mem_append_left _ (List.mem_append_right _ h))) (by decide +kernel))
set_option maxRecDepth 20000 in
theorem gX0_framesToRung_X0_requireWren : GoodIn wsX0_framesToRung (va_wsS RX0 55 yX0_requireWren wsX0_requireWren) := goodIn_app (goodIn_of _ (by decide +kernel)) ggX0_framesToRung_X0_requireWren
set_option maxRecDepth 20000 in
theorem ggX0_framesToRung_X0_requirePitch : GoodIn wsX0_framesToRung wsX0_requirePitch := goodIn_ca (goodIn_r _ [10, 11, 12, 4, 13, 14, 15] (by decide +kernel) (by decide +kernel)) (goodIn_sub (fun _ h => List.mem_cons_of_mem _ (List.mem_append_right _ h)) (by decide +kernel))
set_option maxRecDepth 20000 in
theorem gX0_framesToRung_X0_requirePitch : GoodIn wsX0_framesToRung (va_wsS RX0 59 yX0_requirePitch wsX0_requirePitch) := goodIn_app (goodIn_of _ (by decide +kernel)) ggX0_framesToRung_X0_requirePitch
set_option maxRecDepth 20000 in
theorem ggX0_framesToRung_X0_nextRung : GoodIn wsX0_framesToRung wsX0_nextRung := goodIn_r _ [19, 20, 21, 22, 23, 24, 25, 26, 27, 4, 28, 29, 30, 31, 32, 33, 34, 35, 36, 37, 38, 39, 40, 41, 42, 43, 44, 45, 46, 47, 48, 49, 50, 75, 76, 77, 78, 79, 80, 81, 82, 83, 84, 85, 86] (by decide +kernel) (by decide +kernel)
set_option maxRecDepth 20000 in
theorem gX0_framesToRung_X0_nextRung : GoodIn wsX0_framesToRung (wsV RX0 85 RX0 yX0_nextRung wsX0_nextRung) := goodIn_app (goodIn_of _ (by decide +kernel)) ggX0_framesToRung_X0_nextRung
set_option maxRecDepth 20000 in
theorem ggX0_framesToRung_X0_nextNudge : GoodIn wsX0_framesToRung wsX0_nextNudge := goodIn_r _ [54, 1, 55, 56, 57, 58, 4, 59, 20, 21, 22, 23, 60, 61, 62, 63, 64, 65, 66, 67, 68, 69, 70, 71, 72, 73, 74, 75, 76, 77, 78, 79, 80, 81, 82, 83, 84, 85, 86] (by decide +kernel) (by decide +kernel)
set_option maxRecDepth 20000 in
theorem gX0_framesToRung_X0_nextNudge : GoodIn wsX0_framesToRung (wsV RX0 88 RX0 yX0_nextNudge wsX0_nextNudge) := goodIn_app (goodIn_of _ (by decide +kernel)) ggX0_framesToRung_X0_nextNudge
set_option maxRecDepth 20000 in
theorem ggX0_framesToRung_X0_nudgeTowards : GoodIn wsX0_framesToRung wsX0_nudgeTowards := goodIn_r _ [67, 68, 69, 70, 22, 71, 72, 73, 74, 75, 76, 77, 78, 79, 80, 81, 82, 83, 84, 85, 86] (by decide +kernel) (by decide +kernel)
set_option maxRecDepth 20000 in
theorem gX0_framesToRung_X0_nudgeTowards : GoodIn wsX0_framesToRung (wsV RX0 92 RX0 yX0_nudgeTowards wsX0_nudgeTowards) := goodIn_app (goodIn_of _ (by decide +kernel)) ggX0_framesToRung_X0_nudgeTowards
theorem dX0_framesToRung_0 : decode cX0_framesToRung 0 = .ok (.iload_n 1, 1) := by decide +kernel
theorem dX0_framesToRung_1 : decode cX0_framesToRung 1 = .ok (.invokestatic 55, 3) := by decide +kernel
theorem dX0_framesToRung_4 : decode cX0_framesToRung 4 = .ok (.iload_n 2, 1) := by decide +kernel
theorem dX0_framesToRung_5 : decode cX0_framesToRung 5 = .ok (.invokestatic 59, 3) := by decide +kernel
theorem dX0_framesToRung_8 : decode cX0_framesToRung 8 = .ok (.aload_n 0, 1) := by decide +kernel
theorem dX0_framesToRung_9 : decode cX0_framesToRung 9 = .ok (.aload_n 0, 1) := by decide +kernel
theorem dX0_framesToRung_10 : decode cX0_framesToRung 10 = .ok (.getfield 9, 3) := by decide +kernel
theorem dX0_framesToRung_13 : decode cX0_framesToRung 13 = .ok (.iload_n 1, 1) := by decide +kernel
theorem dX0_framesToRung_14 : decode cX0_framesToRung 14 = .ok (.iaload, 1) := by decide +kernel
theorem dX0_framesToRung_15 : decode cX0_framesToRung 15 = .ok (.iload_n 2, 1) := by decide +kernel
theorem dX0_framesToRung_16 : decode cX0_framesToRung 16 = .ok (.invokevirtual 85, 3) := by decide +kernel
theorem dX0_framesToRung_19 : decode cX0_framesToRung 19 = .ok (.istore_n 3, 1) := by decide +kernel
theorem dX0_framesToRung_20 : decode cX0_framesToRung 20 = .ok (.aload_n 0, 1) := by decide +kernel
theorem dX0_framesToRung_21 : decode cX0_framesToRung 21 = .ok (.iload_n 1, 1) := by decide +kernel
theorem dX0_framesToRung_22 : decode cX0_framesToRung 22 = .ok (.iload_n 3, 1) := by decide +kernel
theorem dX0_framesToRung_23 : decode cX0_framesToRung 23 = .ok (.iload_n 2, 1) := by decide +kernel
theorem dX0_framesToRung_24 : decode cX0_framesToRung 24 = .ok (.invokevirtual 88, 3) := by decide +kernel
theorem dX0_framesToRung_27 : decode cX0_framesToRung 27 = .ok (.istore 4, 2) := by decide +kernel
theorem dX0_framesToRung_29 : decode cX0_framesToRung 29 = .ok (.iconst 1, 1) := by decide +kernel
theorem dX0_framesToRung_30 : decode cX0_framesToRung 30 = .ok (.istore 5, 2) := by decide +kernel
theorem dX0_framesToRung_32 : decode cX0_framesToRung 32 = .ok (.iload 5, 2) := by decide +kernel
theorem dX0_framesToRung_34 : decode cX0_framesToRung 34 = .ok (.sipush 999, 3) := by decide +kernel
theorem dX0_framesToRung_37 : decode cX0_framesToRung 37 = .ok (.if_icmp .gt 31, 3) := by decide +kernel
theorem dX0_framesToRung_40 : decode cX0_framesToRung 40 = .ok (.iload_n 2, 1) := by decide +kernel
theorem dX0_framesToRung_41 : decode cX0_framesToRung 41 = .ok (.iload 4, 2) := by decide +kernel
theorem dX0_framesToRung_43 : decode cX0_framesToRung 43 = .ok (.iadd, 1) := by decide +kernel
theorem dX0_framesToRung_44 : decode cX0_framesToRung 44 = .ok (.iload_n 3, 1) := by decide +kernel
theorem dX0_framesToRung_45 : decode cX0_framesToRung 45 = .ok (.if_icmp .ne 6, 3) := by decide +kernel
theorem dX0_framesToRung_48 : decode cX0_framesToRung 48 = .ok (.iload 5, 2) := by decide +kernel
theorem dX0_framesToRung_50 : decode cX0_framesToRung 50 = .ok (.ireturn, 1) := by decide +kernel
theorem dX0_framesToRung_51 : decode cX0_framesToRung 51 = .ok (.aload_n 0, 1) := by decide +kernel
theorem dX0_framesToRung_52 : decode cX0_framesToRung 52 = .ok (.iload 4, 2) := by decide +kernel
theorem dX0_framesToRung_54 : decode cX0_framesToRung 54 = .ok (.iload_n 3, 1) := by decide +kernel
theorem dX0_framesToRung_55 : decode cX0_framesToRung 55 = .ok (.iload_n 2, 1) := by decide +kernel
theorem dX0_framesToRung_56 : decode cX0_framesToRung 56 = .ok (.isub, 1) := by decide +kernel
theorem dX0_framesToRung_57 : decode cX0_framesToRung 57 = .ok (.invokevirtual 92, 3) := by decide +kernel
theorem dX0_framesToRung_60 : decode cX0_framesToRung 60 = .ok (.istore 4, 2) := by decide +kernel
theorem dX0_framesToRung_62 : decode cX0_framesToRung 62 = .ok (.iinc 5 1, 3) := by decide +kernel
theorem dX0_framesToRung_65 : decode cX0_framesToRung 65 = .ok (.goto (-33), 3) := by decide +kernel
theorem dX0_framesToRung_68 : decode cX0_framesToRung 68 = .ok (.iconst (-1), 1) := by decide +kernel
theorem dX0_framesToRung_69 : decode cX0_framesToRung 69 = .ok (.ireturn, 1) := by decide +kernel
theorem dX0_sung_0 : decode cX0_sung 0 = .ok (.iload_n 1, 1) := by decide +kernel
theorem dX0_sung_1 : decode cX0_sung 1 = .ok (.ifCond .lt 9, 3) := by decide +kernel
theorem dX0_sung_4 : decode cX0_sung 4 = .ok (.iload_n 1, 1) := by decide +kernel
theorem dX0_sung_5 : decode cX0_sung 5 = .ok (.bipush 12, 2) := by decide +kernel
theorem dX0_sung_7 : decode cX0_sung 7 = .ok (.if_icmp .lt 13, 3) := by decide +kernel
theorem dX0_sung_10 : decode cX0_sung 10 = .ok (.new 75, 3) := by decide +kernel
theorem dX0_sung_13 : decode cX0_sung 13 = .ok (.dup, 1) := by decide +kernel
theorem dX0_sung_14 : decode cX0_sung 14 = .ok (.ldc 95, 2) := by decide +kernel
theorem dX0_sung_16 : decode cX0_sung 16 = .ok (.invokespecial 79, 3) := by decide +kernel
theorem dX0_sung_19 : decode cX0_sung 19 = .ok (.athrow, 1) := by decide +kernel
theorem dX0_sung_20 : decode cX0_sung 20 = .ok (.aload_n 0, 1) := by decide +kernel
theorem dX0_sung_21 : decode cX0_sung 21 = .ok (.getfield 28, 3) := by decide +kernel
theorem dX0_sung_24 : decode cX0_sung 24 = .ok (.iload_n 1, 1) := by decide +kernel
theorem dX0_sung_25 : decode cX0_sung 25 = .ok (.iaload, 1) := by decide +kernel
theorem dX0_sung_26 : decode cX0_sung 26 = .ok (.ireturn, 1) := by decide +kernel
set_option maxRecDepth 20000 in
theorem ggX0_bestKey_X0_requireRange : GoodIn wsX0_bestKey wsX0_requireRange := goodIn_ca (goodIn_r _ [4, 5, 6] (by decide +kernel) (by decide +kernel)) (goodIn_sub (fun _ h => List.mem_cons_of_mem _ (List.mem_append_right _ h)) (by decide +kernel))
set_option maxRecDepth 20000 in
theorem gX0_bestKey_X0_requireRange : GoodIn wsX0_bestKey (va_wsS RX0 47 yX0_requireRange wsX0_requireRange) := goodIn_app (goodIn_of _ (by decide +kernel)) ggX0_bestKey_X0_requireRange
set_option maxRecDepth 20000 in
theorem ggX0_bestKey_X0_framesWithin : GoodIn wsX0_bestKey wsX0_framesWithin := goodIn_r _ [10, 11, 12, 13, 3, 14, 15, 16, 17, 18, 19, 20, 21, 22, 23, 24, 25, 26, 27, 28, 29, 30, 31] (by decide +kernel) (by decide +kernel)
set_option maxRecDepth 20000 in
theorem gX0_bestKey_X0_framesWithin : GoodIn wsX0_bestKey (wsV RX0 97 RX0 yX0_framesWithin wsX0_framesWithin) := goodIn_app (goodIn_of _ (by decide +kernel)) ggX0_bestKey_X0_framesWithin
theorem dX0_bestKey_0 : decode cX0_bestKey 0 = .ok (.iload_n 1, 1) := by decide +kernel
theorem dX0_bestKey_1 : decode cX0_bestKey 1 = .ok (.iconst 0, 1) := by decide +kernel
theorem dX0_bestKey_2 : decode cX0_bestKey 2 = .ok (.bipush 7, 2) := by decide +kernel
theorem dX0_bestKey_4 : decode cX0_bestKey 4 = .ok (.invokestatic 47, 3) := by decide +kernel
theorem dX0_bestKey_7 : decode cX0_bestKey 7 = .ok (.iconst 0, 1) := by decide +kernel
theorem dX0_bestKey_8 : decode cX0_bestKey 8 = .ok (.istore_n 2, 1) := by decide +kernel
theorem dX0_bestKey_9 : decode cX0_bestKey 9 = .ok (.aload_n 0, 1) := by decide +kernel
theorem dX0_bestKey_10 : decode cX0_bestKey 10 = .ok (.iconst 0, 1) := by decide +kernel
theorem dX0_bestKey_11 : decode cX0_bestKey 11 = .ok (.iload_n 1, 1) := by decide +kernel
theorem dX0_bestKey_12 : decode cX0_bestKey 12 = .ok (.invokevirtual 97, 3) := by decide +kernel
theorem dX0_bestKey_15 : decode cX0_bestKey 15 = .ok (.istore_n 3, 1) := by decide +kernel
theorem dX0_bestKey_16 : decode cX0_bestKey 16 = .ok (.iconst 1, 1) := by decide +kernel
theorem dX0_bestKey_17 : decode cX0_bestKey 17 = .ok (.istore 4, 2) := by decide +kernel
theorem dX0_bestKey_19 : decode cX0_bestKey 19 = .ok (.iload 4, 2) := by decide +kernel
theorem dX0_bestKey_21 : decode cX0_bestKey 21 = .ok (.bipush 12, 2) := by decide +kernel
theorem dX0_bestKey_23 : decode cX0_bestKey 23 = .ok (.if_icmp .ge 30, 3) := by decide +kernel
theorem dX0_bestKey_26 : decode cX0_bestKey 26 = .ok (.aload_n 0, 1) := by decide +kernel
theorem dX0_bestKey_27 : decode cX0_bestKey 27 = .ok (.iload 4, 2) := by decide +kernel
theorem dX0_bestKey_29 : decode cX0_bestKey 29 = .ok (.iload_n 1, 1) := by decide +kernel
theorem dX0_bestKey_30 : decode cX0_bestKey 30 = .ok (.invokevirtual 97, 3) := by decide +kernel
theorem dX0_bestKey_33 : decode cX0_bestKey 33 = .ok (.istore 5, 2) := by decide +kernel
theorem dX0_bestKey_35 : decode cX0_bestKey 35 = .ok (.iload 5, 2) := by decide +kernel
theorem dX0_bestKey_37 : decode cX0_bestKey 37 = .ok (.iload_n 3, 1) := by decide +kernel
theorem dX0_bestKey_38 : decode cX0_bestKey 38 = .ok (.if_icmp .le 9, 3) := by decide +kernel
theorem dX0_bestKey_41 : decode cX0_bestKey 41 = .ok (.iload 4, 2) := by decide +kernel
theorem dX0_bestKey_43 : decode cX0_bestKey 43 = .ok (.istore_n 2, 1) := by decide +kernel
theorem dX0_bestKey_44 : decode cX0_bestKey 44 = .ok (.iload 5, 2) := by decide +kernel
theorem dX0_bestKey_46 : decode cX0_bestKey 46 = .ok (.istore_n 3, 1) := by decide +kernel
theorem dX0_bestKey_47 : decode cX0_bestKey 47 = .ok (.iinc 4 1, 3) := by decide +kernel
theorem dX0_bestKey_50 : decode cX0_bestKey 50 = .ok (.goto (-31), 3) := by decide +kernel
theorem dX0_bestKey_53 : decode cX0_bestKey 53 = .ok (.iload_n 2, 1) := by decide +kernel
theorem dX0_bestKey_54 : decode cX0_bestKey 54 = .ok (.ireturn, 1) := by decide +kernel
set_option maxRecDepth 20000 in
theorem ggX0_within_X0_requireRange : GoodIn wsX0_within wsX0_requireRange := goodIn_ca (goodIn_r _ [4, 5, 6] (by decide +kernel) (by decide +kernel)) (goodIn_sub (fun _ h => List.mem_cons_of_mem _ (List.mem_append_right _ h)) (by decide +kernel))
set_option maxRecDepth 20000 in
theorem gX0_within_X0_requireRange : GoodIn wsX0_within (va_wsS RX0 47 yX0_requireRange wsX0_requireRange) := goodIn_app (goodIn_of _ (by decide +kernel)) ggX0_within_X0_requireRange
set_option maxRecDepth 20000 in
theorem ggX0_within_X0_framesWithin : GoodIn wsX0_within wsX0_framesWithin := goodIn_r _ [10, 11, 12, 13, 3, 14, 15, 16, 17, 18, 19, 20, 21, 22, 23, 24, 25, 26, 27, 28, 29, 30, 31] (by decide +kernel) (by decide +kernel)
set_option maxRecDepth 20000 in
theorem gX0_within_X0_framesWithin : GoodIn wsX0_within (wsV RX0 97 RX0 yX0_framesWithin wsX0_framesWithin) := goodIn_app (goodIn_of _ (by decide +kernel)) ggX0_within_X0_framesWithin
theorem dX0_within_0 : decode cX0_within 0 = .ok (.iload_n 1, 1) := by decide +kernel
theorem dX0_within_1 : decode cX0_within 1 = .ok (.iconst 0, 1) := by decide +kernel
theorem dX0_within_2 : decode cX0_within 2 = .ok (.bipush 11, 2) := by decide +kernel
theorem dX0_within_4 : decode cX0_within 4 = .ok (.invokestatic 47, 3) := by decide +kernel
theorem dX0_within_7 : decode cX0_within 7 = .ok (.iload_n 2, 1) := by decide +kernel
theorem dX0_within_8 : decode cX0_within 8 = .ok (.iconst 0, 1) := by decide +kernel
theorem dX0_within_9 : decode cX0_within 9 = .ok (.bipush 7, 2) := by decide +kernel
theorem dX0_within_11 : decode cX0_within 11 = .ok (.invokestatic 47, 3) := by decide +kernel
theorem dX0_within_14 : decode cX0_within 14 = .ok (.aload_n 0, 1) := by decide +kernel
theorem dX0_within_15 : decode cX0_within 15 = .ok (.iload_n 1, 1) := by decide +kernel
theorem dX0_within_16 : decode cX0_within 16 = .ok (.iload_n 2, 1) := by decide +kernel
theorem dX0_within_17 : decode cX0_within 17 = .ok (.invokevirtual 97, 3) := by decide +kernel
theorem dX0_within_20 : decode cX0_within 20 = .ok (.ireturn, 1) := by decide +kernel
set_option maxRecDepth 20000 in
theorem ggX0_inOctaves_X0_areInOctaves : GoodIn wsX0_inOctaves wsX0_areInOctaves := goodIn_r _ [5] (by decide +kernel) (by decide +kernel)
set_option maxRecDepth 20000 in
theorem gX0_inOctaves_X0_areInOctaves : GoodIn wsX0_inOctaves (va_wsS RX0 100 yX0_areInOctaves wsX0_areInOctaves) := goodIn_app (goodIn_of _ (by decide +kernel)) ggX0_inOctaves_X0_areInOctaves
theorem dX0_inOctaves_0 : decode cX0_inOctaves 0 = .ok (.iconst 0, 1) := by decide +kernel
theorem dX0_inOctaves_1 : decode cX0_inOctaves 1 = .ok (.istore_n 1, 1) := by decide +kernel
theorem dX0_inOctaves_2 : decode cX0_inOctaves 2 = .ok (.iconst 0, 1) := by decide +kernel
theorem dX0_inOctaves_3 : decode cX0_inOctaves 3 = .ok (.istore_n 2, 1) := by decide +kernel
theorem dX0_inOctaves_4 : decode cX0_inOctaves 4 = .ok (.iload_n 2, 1) := by decide +kernel
theorem dX0_inOctaves_5 : decode cX0_inOctaves 5 = .ok (.iconst 4, 1) := by decide +kernel
theorem dX0_inOctaves_6 : decode cX0_inOctaves 6 = .ok (.if_icmp .ge 45, 3) := by decide +kernel
theorem dX0_inOctaves_9 : decode cX0_inOctaves 9 = .ok (.iload_n 2, 1) := by decide +kernel
theorem dX0_inOctaves_10 : decode cX0_inOctaves 10 = .ok (.iconst 1, 1) := by decide +kernel
theorem dX0_inOctaves_11 : decode cX0_inOctaves 11 = .ok (.iadd, 1) := by decide +kernel
theorem dX0_inOctaves_12 : decode cX0_inOctaves 12 = .ok (.istore_n 3, 1) := by decide +kernel
theorem dX0_inOctaves_13 : decode cX0_inOctaves 13 = .ok (.iload_n 3, 1) := by decide +kernel
theorem dX0_inOctaves_14 : decode cX0_inOctaves 14 = .ok (.iconst 4, 1) := by decide +kernel
theorem dX0_inOctaves_15 : decode cX0_inOctaves 15 = .ok (.if_icmp .ge 30, 3) := by decide +kernel
theorem dX0_inOctaves_18 : decode cX0_inOctaves 18 = .ok (.aload_n 0, 1) := by decide +kernel
theorem dX0_inOctaves_19 : decode cX0_inOctaves 19 = .ok (.getfield 9, 3) := by decide +kernel
theorem dX0_inOctaves_22 : decode cX0_inOctaves 22 = .ok (.iload_n 2, 1) := by decide +kernel
theorem dX0_inOctaves_23 : decode cX0_inOctaves 23 = .ok (.iaload, 1) := by decide +kernel
theorem dX0_inOctaves_24 : decode cX0_inOctaves 24 = .ok (.aload_n 0, 1) := by decide +kernel
theorem dX0_inOctaves_25 : decode cX0_inOctaves 25 = .ok (.getfield 9, 3) := by decide +kernel
theorem dX0_inOctaves_28 : decode cX0_inOctaves 28 = .ok (.iload_n 3, 1) := by decide +kernel
theorem dX0_inOctaves_29 : decode cX0_inOctaves 29 = .ok (.iaload, 1) := by decide +kernel
theorem dX0_inOctaves_30 : decode cX0_inOctaves 30 = .ok (.invokestatic 100, 3) := by decide +kernel
theorem dX0_inOctaves_33 : decode cX0_inOctaves 33 = .ok (.ifCond .eq 6, 3) := by decide +kernel
theorem dX0_inOctaves_36 : decode cX0_inOctaves 36 = .ok (.iinc 1 1, 3) := by decide +kernel
theorem dX0_inOctaves_39 : decode cX0_inOctaves 39 = .ok (.iinc 3 1, 3) := by decide +kernel
theorem dX0_inOctaves_42 : decode cX0_inOctaves 42 = .ok (.goto (-29), 3) := by decide +kernel
theorem dX0_inOctaves_45 : decode cX0_inOctaves 45 = .ok (.iinc 2 1, 3) := by decide +kernel
theorem dX0_inOctaves_48 : decode cX0_inOctaves 48 = .ok (.goto (-44), 3) := by decide +kernel
theorem dX0_inOctaves_51 : decode cX0_inOctaves 51 = .ok (.iload_n 1, 1) := by decide +kernel
theorem dX0_inOctaves_52 : decode cX0_inOctaves 52 = .ok (.ireturn, 1) := by decide +kernel
theorem dX0_requireWren_0 : decode cX0_requireWren 0 = .ok (.iload_n 0, 1) := by decide +kernel
theorem dX0_requireWren_1 : decode cX0_requireWren 1 = .ok (.ifCond .lt 8, 3) := by decide +kernel
theorem dX0_requireWren_4 : decode cX0_requireWren 4 = .ok (.iload_n 0, 1) := by decide +kernel
theorem dX0_requireWren_5 : decode cX0_requireWren 5 = .ok (.iconst 4, 1) := by decide +kernel
theorem dX0_requireWren_6 : decode cX0_requireWren 6 = .ok (.if_icmp .lt 13, 3) := by decide +kernel
theorem dX0_requireWren_9 : decode cX0_requireWren 9 = .ok (.new 75, 3) := by decide +kernel
theorem dX0_requireWren_12 : decode cX0_requireWren 12 = .ok (.dup, 1) := by decide +kernel
theorem dX0_requireWren_13 : decode cX0_requireWren 13 = .ok (.ldc 104, 2) := by decide +kernel
theorem dX0_requireWren_15 : decode cX0_requireWren 15 = .ok (.invokespecial 79, 3) := by decide +kernel
theorem dX0_requireWren_18 : decode cX0_requireWren 18 = .ok (.athrow, 1) := by decide +kernel
theorem dX0_requireWren_19 : decode cX0_requireWren 19 = .ok (.return_, 1) := by decide +kernel
set_option maxRecDepth 20000 in
theorem ggX0_requirePitch_X0_requireRange : GoodIn wsX0_requirePitch wsX0_requireRange := goodIn_ca (goodIn_r _ [4, 5, 6] (by decide +kernel) (by decide +kernel)) (goodIn_sub (fun _ h => List.mem_cons_of_mem _ (List.mem_append_right _ h)) (by decide +kernel))
set_option maxRecDepth 20000 in
theorem gX0_requirePitch_X0_requireRange : GoodIn wsX0_requirePitch (va_wsS RX0 47 yX0_requireRange wsX0_requireRange) := goodIn_app (goodIn_of _ (by decide +kernel)) ggX0_requirePitch_X0_requireRange
theorem dX0_requirePitch_0 : decode cX0_requirePitch 0 = .ok (.iload_n 0, 1) := by decide +kernel
theorem dX0_requirePitch_1 : decode cX0_requirePitch 1 = .ok (.iconst 0, 1) := by decide +kernel
theorem dX0_requirePitch_2 : decode cX0_requirePitch 2 = .ok (.sipush 12000, 3) := by decide +kernel
theorem dX0_requirePitch_5 : decode cX0_requirePitch 5 = .ok (.invokestatic 47, 3) := by decide +kernel
theorem dX0_requirePitch_8 : decode cX0_requirePitch 8 = .ok (.return_, 1) := by decide +kernel
theorem dX0_requireRange_0 : decode cX0_requireRange 0 = .ok (.iload_n 0, 1) := by decide +kernel
theorem dX0_requireRange_1 : decode cX0_requireRange 1 = .ok (.iload_n 1, 1) := by decide +kernel
theorem dX0_requireRange_2 : decode cX0_requireRange 2 = .ok (.if_icmp .lt 8, 3) := by decide +kernel
theorem dX0_requireRange_5 : decode cX0_requireRange 5 = .ok (.iload_n 0, 1) := by decide +kernel
theorem dX0_requireRange_6 : decode cX0_requireRange 6 = .ok (.iload_n 2, 1) := by decide +kernel
theorem dX0_requireRange_7 : decode cX0_requireRange 7 = .ok (.if_icmp .le 13, 3) := by decide +kernel
theorem dX0_requireRange_10 : decode cX0_requireRange 10 = .ok (.new 106, 3) := by decide +kernel
theorem dX0_requireRange_13 : decode cX0_requireRange 13 = .ok (.dup, 1) := by decide +kernel
theorem dX0_requireRange_14 : decode cX0_requireRange 14 = .ok (.ldc 108, 2) := by decide +kernel
theorem dX0_requireRange_16 : decode cX0_requireRange 16 = .ok (.invokespecial 110, 3) := by decide +kernel
theorem dX0_requireRange_19 : decode cX0_requireRange 19 = .ok (.athrow, 1) := by decide +kernel
theorem dX0_requireRange_20 : decode cX0_requireRange 20 = .ok (.return_, 1) := by decide +kernel
set_option maxRecDepth 20000 in
theorem ggX0_singFrame_X0_nextRung : GoodIn wsX0_singFrame wsX0_nextRung := goodIn_r _ [12, 13, 14, 15, 16, 17, 18, 19, 20, 11, 21, 22, 23, 24, 25, 26, 27, 28, 29, 30, 31, 32, 33, 34, 35, 36, 37, 38, 39, 40, 41, 42, 43, 74, 75, 76, 77, 78, 79, 80, 81, 82, 83, 84, 85] (by decide +kernel) (by decide +kernel)
set_option maxRecDepth 20000 in
theorem gX0_singFrame_X0_nextRung : GoodIn wsX0_singFrame (wsV RX0 85 RX0 yX0_nextRung wsX0_nextRung) := goodIn_app (goodIn_of _ (by decide +kernel)) ggX0_singFrame_X0_nextRung
set_option maxRecDepth 20000 in
theorem ggX0_singFrame_X0_nextNudge : GoodIn wsX0_singFrame wsX0_nextNudge := goodIn_r _ [47, 1, 2, 48, 49, 50, 11, 51, 13, 14, 15, 16, 52, 53, 54, 55, 56, 57, 58, 59, 60, 61, 62, 63, 64, 65, 66, 74, 75, 76, 77, 78, 79, 80, 81, 82, 83, 84, 85] (by decide +kernel) (by decide +kernel)
set_option maxRecDepth 20000 in
theorem gX0_singFrame_X0_nextNudge : GoodIn wsX0_singFrame (wsV RX0 88 RX0 yX0_nextNudge wsX0_nextNudge) := goodIn_app (goodIn_of _ (by decide +kernel)) ggX0_singFrame_X0_nextNudge
set_option maxRecDepth 20000 in
theorem ggX0_singFrame_X0_isChange : GoodIn wsX0_singFrame wsX0_isChange := goodIn_r _ [55] (by decide +kernel) (by decide +kernel)
set_option maxRecDepth 20000 in
theorem gX0_singFrame_X0_isChange : GoodIn wsX0_singFrame (va_wsS RX0 111 yX0_isChange wsX0_isChange) := goodIn_app (goodIn_of _ (by decide +kernel)) ggX0_singFrame_X0_isChange
set_option maxRecDepth 20000 in
theorem ggX0_singFrame_X0_isLeap : GoodIn wsX0_singFrame wsX0_isLeap := goodIn_r _ [51, 13, 14, 15, 16, 52, 53, 54, 11, 55, 74, 75, 76, 77, 78, 79, 80, 81, 82, 83, 84, 85] (by decide +kernel) (by decide +kernel)
set_option maxRecDepth 20000 in
theorem gX0_singFrame_X0_isLeap : GoodIn wsX0_singFrame (wsV RX0 114 RX0 yX0_isLeap wsX0_isLeap) := goodIn_app (goodIn_of _ (by decide +kernel)) ggX0_singFrame_X0_isLeap
set_option maxRecDepth 20000 in
theorem ggX0_singFrame_X0_isRung : GoodIn wsX0_singFrame wsX0_isRung := goodIn_r _ [70, 26, 27, 28, 11, 29, 30, 31, 32, 33, 34, 35, 36, 37, 38, 39, 74, 75, 76, 77, 78, 79, 80, 81, 82, 83, 84, 85] (by decide +kernel) (by decide +kernel)
set_option maxRecDepth 20000 in
theorem gX0_singFrame_X0_isRung : GoodIn wsX0_singFrame (wsV RX0 51 RX0 yX0_isRung wsX0_isRung) := goodIn_app (goodIn_of _ (by decide +kernel)) ggX0_singFrame_X0_isRung
set_option maxRecDepth 20000 in
theorem ggX0_singFrame_X0_nearestSemitone : GoodIn wsX0_singFrame wsX0_nearestSemitone := goodIn_r _ [73, 36, 37, 38, 39] (by decide +kernel) (by decide +kernel)
set_option maxRecDepth 20000 in
theorem gX0_singFrame_X0_nearestSemitone : GoodIn wsX0_singFrame (va_wsS RX0 117 yX0_nearestSemitone wsX0_nearestSemitone) := goodIn_app (goodIn_of _ (by decide +kernel)) ggX0_singFrame_X0_nearestSemitone
theorem dX0_singFrame_0 : decode cX0_singFrame 0 = .ok (.aload_n 0, 1) := by decide +kernel
theorem dX0_singFrame_1 : decode cX0_singFrame 1 = .ok (.getfield 9, 3) := by decide +kernel
theorem dX0_singFrame_4 : decode cX0_singFrame 4 = .ok (.iload_n 1, 1) := by decide +kernel
theorem dX0_singFrame_5 : decode cX0_singFrame 5 = .ok (.iaload, 1) := by decide +kernel
theorem dX0_singFrame_6 : decode cX0_singFrame 6 = .ok (.istore_n 3, 1) := by decide +kernel
theorem dX0_singFrame_7 : decode cX0_singFrame 7 = .ok (.aload_n 0, 1) := by decide +kernel
theorem dX0_singFrame_8 : decode cX0_singFrame 8 = .ok (.iload_n 3, 1) := by decide +kernel
theorem dX0_singFrame_9 : decode cX0_singFrame 9 = .ok (.iload_n 2, 1) := by decide +kernel
theorem dX0_singFrame_10 : decode cX0_singFrame 10 = .ok (.invokevirtual 85, 3) := by decide +kernel
theorem dX0_singFrame_13 : decode cX0_singFrame 13 = .ok (.istore 4, 2) := by decide +kernel
theorem dX0_singFrame_15 : decode cX0_singFrame 15 = .ok (.aload_n 0, 1) := by decide +kernel
theorem dX0_singFrame_16 : decode cX0_singFrame 16 = .ok (.iload_n 1, 1) := by decide +kernel
theorem dX0_singFrame_17 : decode cX0_singFrame 17 = .ok (.iload 4, 2) := by decide +kernel
theorem dX0_singFrame_19 : decode cX0_singFrame 19 = .ok (.iload_n 2, 1) := by decide +kernel
theorem dX0_singFrame_20 : decode cX0_singFrame 20 = .ok (.invokevirtual 88, 3) := by decide +kernel
theorem dX0_singFrame_23 : decode cX0_singFrame 23 = .ok (.istore 5, 2) := by decide +kernel
theorem dX0_singFrame_25 : decode cX0_singFrame 25 = .ok (.iload_n 2, 1) := by decide +kernel
theorem dX0_singFrame_26 : decode cX0_singFrame 26 = .ok (.iload 5, 2) := by decide +kernel
theorem dX0_singFrame_28 : decode cX0_singFrame 28 = .ok (.iadd, 1) := by decide +kernel
theorem dX0_singFrame_29 : decode cX0_singFrame 29 = .ok (.istore 6, 2) := by decide +kernel
theorem dX0_singFrame_31 : decode cX0_singFrame 31 = .ok (.aload_n 0, 1) := by decide +kernel
theorem dX0_singFrame_32 : decode cX0_singFrame 32 = .ok (.getfield 9, 3) := by decide +kernel
theorem dX0_singFrame_35 : decode cX0_singFrame 35 = .ok (.iload_n 1, 1) := by decide +kernel
theorem dX0_singFrame_36 : decode cX0_singFrame 36 = .ok (.iload 4, 2) := by decide +kernel
theorem dX0_singFrame_38 : decode cX0_singFrame 38 = .ok (.iastore, 1) := by decide +kernel
theorem dX0_singFrame_39 : decode cX0_singFrame 39 = .ok (.aload_n 0, 1) := by decide +kernel
theorem dX0_singFrame_40 : decode cX0_singFrame 40 = .ok (.getfield 13, 3) := by decide +kernel
theorem dX0_singFrame_43 : decode cX0_singFrame 43 = .ok (.iload_n 1, 1) := by decide +kernel
theorem dX0_singFrame_44 : decode cX0_singFrame 44 = .ok (.iload 5, 2) := by decide +kernel
theorem dX0_singFrame_46 : decode cX0_singFrame 46 = .ok (.iastore, 1) := by decide +kernel
theorem dX0_singFrame_47 : decode cX0_singFrame 47 = .ok (.aload_n 0, 1) := by decide +kernel
theorem dX0_singFrame_48 : decode cX0_singFrame 48 = .ok (.getfield 16, 3) := by decide +kernel
theorem dX0_singFrame_51 : decode cX0_singFrame 51 = .ok (.iload_n 1, 1) := by decide +kernel
theorem dX0_singFrame_52 : decode cX0_singFrame 52 = .ok (.dup2, 1) := by decide +kernel
theorem dX0_singFrame_53 : decode cX0_singFrame 53 = .ok (.iaload, 1) := by decide +kernel
theorem dX0_singFrame_54 : decode cX0_singFrame 54 = .ok (.iconst 1, 1) := by decide +kernel
theorem dX0_singFrame_55 : decode cX0_singFrame 55 = .ok (.iadd, 1) := by decide +kernel
theorem dX0_singFrame_56 : decode cX0_singFrame 56 = .ok (.iastore, 1) := by decide +kernel
theorem dX0_singFrame_57 : decode cX0_singFrame 57 = .ok (.iload_n 3, 1) := by decide +kernel
theorem dX0_singFrame_58 : decode cX0_singFrame 58 = .ok (.iload 4, 2) := by decide +kernel
theorem dX0_singFrame_60 : decode cX0_singFrame 60 = .ok (.invokestatic 111, 3) := by decide +kernel
theorem dX0_singFrame_63 : decode cX0_singFrame 63 = .ok (.ifCond .eq 13, 3) := by decide +kernel
theorem dX0_singFrame_66 : decode cX0_singFrame 66 = .ok (.aload_n 0, 1) := by decide +kernel
theorem dX0_singFrame_67 : decode cX0_singFrame 67 = .ok (.getfield 19, 3) := by decide +kernel
theorem dX0_singFrame_70 : decode cX0_singFrame 70 = .ok (.iload_n 1, 1) := by decide +kernel
theorem dX0_singFrame_71 : decode cX0_singFrame 71 = .ok (.dup2, 1) := by decide +kernel
theorem dX0_singFrame_72 : decode cX0_singFrame 72 = .ok (.iaload, 1) := by decide +kernel
theorem dX0_singFrame_73 : decode cX0_singFrame 73 = .ok (.iconst 1, 1) := by decide +kernel
theorem dX0_singFrame_74 : decode cX0_singFrame 74 = .ok (.iadd, 1) := by decide +kernel
theorem dX0_singFrame_75 : decode cX0_singFrame 75 = .ok (.iastore, 1) := by decide +kernel
theorem dX0_singFrame_76 : decode cX0_singFrame 76 = .ok (.aload_n 0, 1) := by decide +kernel
theorem dX0_singFrame_77 : decode cX0_singFrame 77 = .ok (.iload_n 3, 1) := by decide +kernel
theorem dX0_singFrame_78 : decode cX0_singFrame 78 = .ok (.iload 4, 2) := by decide +kernel
theorem dX0_singFrame_80 : decode cX0_singFrame 80 = .ok (.invokevirtual 114, 3) := by decide +kernel
theorem dX0_singFrame_83 : decode cX0_singFrame 83 = .ok (.ifCond .eq 13, 3) := by decide +kernel
theorem dX0_singFrame_86 : decode cX0_singFrame 86 = .ok (.aload_n 0, 1) := by decide +kernel
theorem dX0_singFrame_87 : decode cX0_singFrame 87 = .ok (.getfield 22, 3) := by decide +kernel
theorem dX0_singFrame_90 : decode cX0_singFrame 90 = .ok (.iload_n 1, 1) := by decide +kernel
theorem dX0_singFrame_91 : decode cX0_singFrame 91 = .ok (.dup2, 1) := by decide +kernel
theorem dX0_singFrame_92 : decode cX0_singFrame 92 = .ok (.iaload, 1) := by decide +kernel
theorem dX0_singFrame_93 : decode cX0_singFrame 93 = .ok (.iconst 1, 1) := by decide +kernel
theorem dX0_singFrame_94 : decode cX0_singFrame 94 = .ok (.iadd, 1) := by decide +kernel
theorem dX0_singFrame_95 : decode cX0_singFrame 95 = .ok (.iastore, 1) := by decide +kernel
theorem dX0_singFrame_96 : decode cX0_singFrame 96 = .ok (.aload_n 0, 1) := by decide +kernel
theorem dX0_singFrame_97 : decode cX0_singFrame 97 = .ok (.iload 6, 2) := by decide +kernel
theorem dX0_singFrame_99 : decode cX0_singFrame 99 = .ok (.invokevirtual 51, 3) := by decide +kernel
theorem dX0_singFrame_102 : decode cX0_singFrame 102 = .ok (.ifCond .eq 13, 3) := by decide +kernel
theorem dX0_singFrame_105 : decode cX0_singFrame 105 = .ok (.aload_n 0, 1) := by decide +kernel
theorem dX0_singFrame_106 : decode cX0_singFrame 106 = .ok (.getfield 25, 3) := by decide +kernel
theorem dX0_singFrame_109 : decode cX0_singFrame 109 = .ok (.iload_n 1, 1) := by decide +kernel
theorem dX0_singFrame_110 : decode cX0_singFrame 110 = .ok (.dup2, 1) := by decide +kernel
theorem dX0_singFrame_111 : decode cX0_singFrame 111 = .ok (.iaload, 1) := by decide +kernel
theorem dX0_singFrame_112 : decode cX0_singFrame 112 = .ok (.iconst 1, 1) := by decide +kernel
theorem dX0_singFrame_113 : decode cX0_singFrame 113 = .ok (.iadd, 1) := by decide +kernel
theorem dX0_singFrame_114 : decode cX0_singFrame 114 = .ok (.iastore, 1) := by decide +kernel
theorem dX0_singFrame_115 : decode cX0_singFrame 115 = .ok (.aload_n 0, 1) := by decide +kernel
theorem dX0_singFrame_116 : decode cX0_singFrame 116 = .ok (.getfield 28, 3) := by decide +kernel
theorem dX0_singFrame_119 : decode cX0_singFrame 119 = .ok (.iload_n 2, 1) := by decide +kernel
theorem dX0_singFrame_120 : decode cX0_singFrame 120 = .ok (.invokestatic 117, 3) := by decide +kernel
theorem dX0_singFrame_123 : decode cX0_singFrame 123 = .ok (.dup2, 1) := by decide +kernel
theorem dX0_singFrame_124 : decode cX0_singFrame 124 = .ok (.iaload, 1) := by decide +kernel
theorem dX0_singFrame_125 : decode cX0_singFrame 125 = .ok (.iconst 1, 1) := by decide +kernel
theorem dX0_singFrame_126 : decode cX0_singFrame 126 = .ok (.iadd, 1) := by decide +kernel
theorem dX0_singFrame_127 : decode cX0_singFrame 127 = .ok (.iastore, 1) := by decide +kernel
theorem dX0_singFrame_128 : decode cX0_singFrame 128 = .ok (.iload 6, 2) := by decide +kernel
theorem dX0_singFrame_130 : decode cX0_singFrame 130 = .ok (.ireturn, 1) := by decide +kernel
set_option maxRecDepth 20000 in
theorem ggX0_nextRung_X0_nearestRung : GoodIn wsX0_nextRung wsX0_nearestRung := goodIn_r _ [10, 11, 12, 13, 9, 14, 15, 16, 17, 18, 19, 20, 21, 22, 23, 24, 25, 26, 27, 28, 29, 30, 31, 32, 33, 34, 35, 36, 37, 38, 39, 40, 41, 42, 43, 44] (by decide +kernel) (by decide +kernel)
set_option maxRecDepth 20000 in
theorem gX0_nextRung_X0_nearestRung : GoodIn wsX0_nextRung (wsV RX0 71 RX0 yX0_nearestRung wsX0_nearestRung) := goodIn_app (goodIn_of _ (by decide +kernel)) ggX0_nextRung_X0_nearestRung
theorem dX0_nextRung_0 : decode cX0_nextRung 0 = .ok (.iload_n 1, 1) := by decide +kernel
theorem dX0_nextRung_1 : decode cX0_nextRung 1 = .ok (.iconst (-1), 1) := by decide +kernel
theorem dX0_nextRung_2 : decode cX0_nextRung 2 = .ok (.if_icmp .eq 18, 3) := by decide +kernel
theorem dX0_nextRung_5 : decode cX0_nextRung 5 = .ok (.iload_n 2, 1) := by decide +kernel
theorem dX0_nextRung_6 : decode cX0_nextRung 6 = .ok (.iload_n 1, 1) := by decide +kernel
theorem dX0_nextRung_7 : decode cX0_nextRung 7 = .ok (.isub, 1) := by decide +kernel
theorem dX0_nextRung_8 : decode cX0_nextRung 8 = .ok (.invokestatic 120, 3) := by decide +kernel
theorem dX0_nextRung_11 : decode cX0_nextRung 11 = .ok (.aload_n 0, 1) := by decide +kernel
theorem dX0_nextRung_12 : decode cX0_nextRung 12 = .ok (.getfield 41, 3) := by decide +kernel
theorem dX0_nextRung_15 : decode cX0_nextRung 15 = .ok (.if_icmp .gt 5, 3) := by decide +kernel
theorem dX0_nextRung_18 : decode cX0_nextRung 18 = .ok (.iload_n 1, 1) := by decide +kernel
theorem dX0_nextRung_19 : decode cX0_nextRung 19 = .ok (.ireturn, 1) := by decide +kernel
theorem dX0_nextRung_20 : decode cX0_nextRung 20 = .ok (.aload_n 0, 1) := by decide +kernel
theorem dX0_nextRung_21 : decode cX0_nextRung 21 = .ok (.iload_n 2, 1) := by decide +kernel
theorem dX0_nextRung_22 : decode cX0_nextRung 22 = .ok (.invokevirtual 71, 3) := by decide +kernel
theorem dX0_nextRung_25 : decode cX0_nextRung 25 = .ok (.ireturn, 1) := by decide +kernel
set_option maxRecDepth 20000 in
theorem ggX0_nextNudge_X0_isLeap : GoodIn wsX0_nextNudge wsX0_isLeap := goodIn_r _ [7, 8, 9, 10, 11, 12, 13, 14, 6, 15, 27, 28, 29, 30, 31, 32, 33, 34, 35, 36, 37, 38] (by decide +kernel) (by decide +kernel)
set_option maxRecDepth 20000 in
theorem gX0_nextNudge_X0_isLeap : GoodIn wsX0_nextNudge (wsV RX0 114 RX0 yX0_isLeap wsX0_isLeap) := goodIn_app (goodIn_of _ (by decide +kernel)) ggX0_nextNudge_X0_isLeap
set_option maxRecDepth 20000 in
theorem ggX0_nextNudge_X0_nudgeTowards : GoodIn wsX0_nextNudge wsX0_nudgeTowards := goodIn_r _ [19, 20, 21, 22, 10, 23, 24, 25, 26, 27, 28, 29, 30, 31, 32, 33, 34, 35, 36, 37, 38] (by decide +kernel) (by decide +kernel)
set_option maxRecDepth 20000 in
theorem gX0_nextNudge_X0_nudgeTowards : GoodIn wsX0_nextNudge (wsV RX0 92 RX0 yX0_nudgeTowards wsX0_nudgeTowards) := goodIn_app (goodIn_of _ (by decide +kernel)) ggX0_nextNudge_X0_nudgeTowards
theorem dX0_nextNudge_0 : decode cX0_nextNudge 0 = .ok (.aload_n 0, 1) := by decide +kernel
theorem dX0_nextNudge_1 : decode cX0_nextNudge 1 = .ok (.aload_n 0, 1) := by decide +kernel
theorem dX0_nextNudge_2 : decode cX0_nextNudge 2 = .ok (.getfield 9, 3) := by decide +kernel
theorem dX0_nextNudge_5 : decode cX0_nextNudge 5 = .ok (.iload_n 1, 1) := by decide +kernel
theorem dX0_nextNudge_6 : decode cX0_nextNudge 6 = .ok (.iaload, 1) := by decide +kernel
theorem dX0_nextNudge_7 : decode cX0_nextNudge 7 = .ok (.iload_n 2, 1) := by decide +kernel
theorem dX0_nextNudge_8 : decode cX0_nextNudge 8 = .ok (.invokevirtual 114, 3) := by decide +kernel
theorem dX0_nextNudge_11 : decode cX0_nextNudge 11 = .ok (.ifCond .eq 5, 3) := by decide +kernel
theorem dX0_nextNudge_14 : decode cX0_nextNudge 14 = .ok (.iconst 0, 1) := by decide +kernel
theorem dX0_nextNudge_15 : decode cX0_nextNudge 15 = .ok (.ireturn, 1) := by decide +kernel
theorem dX0_nextNudge_16 : decode cX0_nextNudge 16 = .ok (.aload_n 0, 1) := by decide +kernel
theorem dX0_nextNudge_17 : decode cX0_nextNudge 17 = .ok (.aload_n 0, 1) := by decide +kernel
theorem dX0_nextNudge_18 : decode cX0_nextNudge 18 = .ok (.getfield 13, 3) := by decide +kernel
theorem dX0_nextNudge_21 : decode cX0_nextNudge 21 = .ok (.iload_n 1, 1) := by decide +kernel
theorem dX0_nextNudge_22 : decode cX0_nextNudge 22 = .ok (.iaload, 1) := by decide +kernel
theorem dX0_nextNudge_23 : decode cX0_nextNudge 23 = .ok (.iload_n 2, 1) := by decide +kernel
theorem dX0_nextNudge_24 : decode cX0_nextNudge 24 = .ok (.iload_n 3, 1) := by decide +kernel
theorem dX0_nextNudge_25 : decode cX0_nextNudge 25 = .ok (.isub, 1) := by decide +kernel
theorem dX0_nextNudge_26 : decode cX0_nextNudge 26 = .ok (.invokevirtual 92, 3) := by decide +kernel
theorem dX0_nextNudge_29 : decode cX0_nextNudge 29 = .ok (.ireturn, 1) := by decide +kernel
theorem dX0_nudgeTowards_0 : decode cX0_nudgeTowards 0 = .ok (.iload_n 2, 1) := by decide +kernel
theorem dX0_nudgeTowards_1 : decode cX0_nudgeTowards 1 = .ok (.iload_n 1, 1) := by decide +kernel
theorem dX0_nudgeTowards_2 : decode cX0_nudgeTowards 2 = .ok (.isub, 1) := by decide +kernel
theorem dX0_nudgeTowards_3 : decode cX0_nudgeTowards 3 = .ok (.istore_n 3, 1) := by decide +kernel
theorem dX0_nudgeTowards_4 : decode cX0_nudgeTowards 4 = .ok (.iload_n 3, 1) := by decide +kernel
theorem dX0_nudgeTowards_5 : decode cX0_nudgeTowards 5 = .ok (.aload_n 0, 1) := by decide +kernel
theorem dX0_nudgeTowards_6 : decode cX0_nudgeTowards 6 = .ok (.getfield 38, 3) := by decide +kernel
theorem dX0_nudgeTowards_9 : decode cX0_nudgeTowards 9 = .ok (.imul, 1) := by decide +kernel
theorem dX0_nudgeTowards_10 : decode cX0_nudgeTowards 10 = .ok (.bipush 100, 2) := by decide +kernel
theorem dX0_nudgeTowards_12 : decode cX0_nudgeTowards 12 = .ok (.idiv, 1) := by decide +kernel
theorem dX0_nudgeTowards_13 : decode cX0_nudgeTowards 13 = .ok (.istore 4, 2) := by decide +kernel
theorem dX0_nudgeTowards_15 : decode cX0_nudgeTowards 15 = .ok (.iload 4, 2) := by decide +kernel
theorem dX0_nudgeTowards_17 : decode cX0_nudgeTowards 17 = .ok (.ifCond .ne 21, 3) := by decide +kernel
theorem dX0_nudgeTowards_20 : decode cX0_nudgeTowards 20 = .ok (.aload_n 0, 1) := by decide +kernel
theorem dX0_nudgeTowards_21 : decode cX0_nudgeTowards 21 = .ok (.getfield 38, 3) := by decide +kernel
theorem dX0_nudgeTowards_24 : decode cX0_nudgeTowards 24 = .ok (.ifCond .eq 14, 3) := by decide +kernel
theorem dX0_nudgeTowards_27 : decode cX0_nudgeTowards 27 = .ok (.iconst (-1), 1) := by decide +kernel
theorem dX0_nudgeTowards_28 : decode cX0_nudgeTowards 28 = .ok (.iload_n 3, 1) := by decide +kernel
theorem dX0_nudgeTowards_29 : decode cX0_nudgeTowards 29 = .ok (.iconst 1, 1) := by decide +kernel
theorem dX0_nudgeTowards_30 : decode cX0_nudgeTowards 30 = .ok (.invokestatic 123, 3) := by decide +kernel
theorem dX0_nudgeTowards_33 : decode cX0_nudgeTowards 33 = .ok (.invokestatic 126, 3) := by decide +kernel
theorem dX0_nudgeTowards_36 : decode cX0_nudgeTowards 36 = .ok (.istore 4, 2) := by decide +kernel
theorem dX0_nudgeTowards_38 : decode cX0_nudgeTowards 38 = .ok (.iload_n 1, 1) := by decide +kernel
theorem dX0_nudgeTowards_39 : decode cX0_nudgeTowards 39 = .ok (.iload 4, 2) := by decide +kernel
theorem dX0_nudgeTowards_41 : decode cX0_nudgeTowards 41 = .ok (.iadd, 1) := by decide +kernel
theorem dX0_nudgeTowards_42 : decode cX0_nudgeTowards 42 = .ok (.ireturn, 1) := by decide +kernel
theorem dX0_isChange_0 : decode cX0_isChange 0 = .ok (.iload_n 0, 1) := by decide +kernel
theorem dX0_isChange_1 : decode cX0_isChange 1 = .ok (.iconst (-1), 1) := by decide +kernel
theorem dX0_isChange_2 : decode cX0_isChange 2 = .ok (.if_icmp .eq 12, 3) := by decide +kernel
theorem dX0_isChange_5 : decode cX0_isChange 5 = .ok (.iload_n 0, 1) := by decide +kernel
theorem dX0_isChange_6 : decode cX0_isChange 6 = .ok (.iload_n 1, 1) := by decide +kernel
theorem dX0_isChange_7 : decode cX0_isChange 7 = .ok (.if_icmp .eq 7, 3) := by decide +kernel
theorem dX0_isChange_10 : decode cX0_isChange 10 = .ok (.iconst 1, 1) := by decide +kernel
theorem dX0_isChange_11 : decode cX0_isChange 11 = .ok (.goto 4, 3) := by decide +kernel
theorem dX0_isChange_14 : decode cX0_isChange 14 = .ok (.iconst 0, 1) := by decide +kernel
theorem dX0_isChange_15 : decode cX0_isChange 15 = .ok (.ireturn, 1) := by decide +kernel
set_option maxRecDepth 20000 in
theorem ggX0_isLeap_X0_isChange : GoodIn wsX0_isLeap wsX0_isChange := goodIn_r _ [9] (by decide +kernel) (by decide +kernel)
set_option maxRecDepth 20000 in
theorem gX0_isLeap_X0_isChange : GoodIn wsX0_isLeap (va_wsS RX0 111 yX0_isChange wsX0_isChange) := goodIn_app (goodIn_of _ (by decide +kernel)) ggX0_isLeap_X0_isChange
theorem dX0_isLeap_0 : decode cX0_isLeap 0 = .ok (.iload_n 1, 1) := by decide +kernel
theorem dX0_isLeap_1 : decode cX0_isLeap 1 = .ok (.iload_n 2, 1) := by decide +kernel
theorem dX0_isLeap_2 : decode cX0_isLeap 2 = .ok (.invokestatic 111, 3) := by decide +kernel
theorem dX0_isLeap_5 : decode cX0_isLeap 5 = .ok (.ifCond .eq 20, 3) := by decide +kernel
theorem dX0_isLeap_8 : decode cX0_isLeap 8 = .ok (.iload_n 2, 1) := by decide +kernel
theorem dX0_isLeap_9 : decode cX0_isLeap 9 = .ok (.iload_n 1, 1) := by decide +kernel
theorem dX0_isLeap_10 : decode cX0_isLeap 10 = .ok (.isub, 1) := by decide +kernel
theorem dX0_isLeap_11 : decode cX0_isLeap 11 = .ok (.invokestatic 120, 3) := by decide +kernel
theorem dX0_isLeap_14 : decode cX0_isLeap 14 = .ok (.aload_n 0, 1) := by decide +kernel
theorem dX0_isLeap_15 : decode cX0_isLeap 15 = .ok (.getfield 44, 3) := by decide +kernel
theorem dX0_isLeap_18 : decode cX0_isLeap 18 = .ok (.if_icmp .le 7, 3) := by decide +kernel
theorem dX0_isLeap_21 : decode cX0_isLeap 21 = .ok (.iconst 1, 1) := by decide +kernel
theorem dX0_isLeap_22 : decode cX0_isLeap 22 = .ok (.goto 4, 3) := by decide +kernel
theorem dX0_isLeap_25 : decode cX0_isLeap 25 = .ok (.iconst 0, 1) := by decide +kernel
theorem dX0_isLeap_26 : decode cX0_isLeap 26 = .ok (.ireturn, 1) := by decide +kernel
set_option maxRecDepth 20000 in
theorem ggX0_isRung_X0_stepAt : GoodIn wsX0_isRung wsX0_stepAt := goodIn_r _ [5, 6, 7, 8, 9, 4, 10, 11, 12, 13, 14, 15, 16, 17, 18, 19, 20, 21, 22, 23, 24, 25, 26, 27] (by decide +kernel) (by decide +kernel)
set_option maxRecDepth 20000 in
theorem gX0_isRung_X0_stepAt : GoodIn wsX0_isRung (wsV RX0 82 RX0 yX0_stepAt wsX0_stepAt) := goodIn_app (goodIn_of _ (by decide +kernel)) ggX0_isRung_X0_stepAt
theorem dX0_isRung_0 : decode cX0_isRung 0 = .ok (.aload_n 0, 1) := by decide +kernel
theorem dX0_isRung_1 : decode cX0_isRung 1 = .ok (.iload_n 1, 1) := by decide +kernel
theorem dX0_isRung_2 : decode cX0_isRung 2 = .ok (.invokevirtual 82, 3) := by decide +kernel
theorem dX0_isRung_5 : decode cX0_isRung 5 = .ok (.iconst (-1), 1) := by decide +kernel
theorem dX0_isRung_6 : decode cX0_isRung 6 = .ok (.if_icmp .eq 7, 3) := by decide +kernel
theorem dX0_isRung_9 : decode cX0_isRung 9 = .ok (.iconst 1, 1) := by decide +kernel
theorem dX0_isRung_10 : decode cX0_isRung 10 = .ok (.goto 4, 3) := by decide +kernel
theorem dX0_isRung_13 : decode cX0_isRung 13 = .ok (.iconst 0, 1) := by decide +kernel
theorem dX0_isRung_14 : decode cX0_isRung 14 = .ok (.ireturn, 1) := by decide +kernel
set_option maxRecDepth 20000 in
theorem ggX0_stepAt_X0_stepAbove : GoodIn wsX0_stepAt wsX0_stepAbove := goodIn_r _ [6, 7, 8, 9, 10, 11] (by decide +kernel) (by decide +kernel)
set_option maxRecDepth 20000 in
theorem gX0_stepAt_X0_stepAbove : GoodIn wsX0_stepAt (va_wsS RX0 129 yX0_stepAbove wsX0_stepAbove) := goodIn_app (goodIn_of _ (by decide +kernel)) ggX0_stepAt_X0_stepAbove
theorem dX0_stepAt_0 : decode cX0_stepAt 0 = .ok (.iload_n 1, 1) := by decide +kernel
theorem dX0_stepAt_1 : decode cX0_stepAt 1 = .ok (.ifCond .lt 17, 3) := by decide +kernel
theorem dX0_stepAt_4 : decode cX0_stepAt 4 = .ok (.iload_n 1, 1) := by decide +kernel
theorem dX0_stepAt_5 : decode cX0_stepAt 5 = .ok (.sipush 12000, 3) := by decide +kernel
theorem dX0_stepAt_8 : decode cX0_stepAt 8 = .ok (.if_icmp .gt 10, 3) := by decide +kernel
theorem dX0_stepAt_11 : decode cX0_stepAt 11 = .ok (.iload_n 1, 1) := by decide +kernel
theorem dX0_stepAt_12 : decode cX0_stepAt 12 = .ok (.bipush 100, 2) := by decide +kernel
theorem dX0_stepAt_14 : decode cX0_stepAt 14 = .ok (.irem, 1) := by decide +kernel
theorem dX0_stepAt_15 : decode cX0_stepAt 15 = .ok (.ifCond .eq 5, 3) := by decide +kernel
theorem dX0_stepAt_18 : decode cX0_stepAt 18 = .ok (.iconst (-1), 1) := by decide +kernel
theorem dX0_stepAt_19 : decode cX0_stepAt 19 = .ok (.ireturn, 1) := by decide +kernel
theorem dX0_stepAt_20 : decode cX0_stepAt 20 = .ok (.iload_n 1, 1) := by decide +kernel
theorem dX0_stepAt_21 : decode cX0_stepAt 21 = .ok (.bipush 100, 2) := by decide +kernel
theorem dX0_stepAt_23 : decode cX0_stepAt 23 = .ok (.idiv, 1) := by decide +kernel
theorem dX0_stepAt_24 : decode cX0_stepAt 24 = .ok (.aload_n 0, 1) := by decide +kernel
theorem dX0_stepAt_25 : decode cX0_stepAt 25 = .ok (.getfield 31, 3) := by decide +kernel
theorem dX0_stepAt_28 : decode cX0_stepAt 28 = .ok (.isub, 1) := by decide +kernel
theorem dX0_stepAt_29 : decode cX0_stepAt 29 = .ok (.aload_n 0, 1) := by decide +kernel
theorem dX0_stepAt_30 : decode cX0_stepAt 30 = .ok (.getfield 35, 3) := by decide +kernel
theorem dX0_stepAt_33 : decode cX0_stepAt 33 = .ok (.invokestatic 129, 3) := by decide +kernel
theorem dX0_stepAt_36 : decode cX0_stepAt 36 = .ok (.ireturn, 1) := by decide +kernel
set_option maxRecDepth 20000 in
theorem ggX0_stepAbove_J9_floorMod_7cf53 : GoodIn wsX0_stepAbove wsJ9_floorMod_7cf53 := goodIn_r _ [5] (by decide +kernel) (by decide +kernel)
set_option maxRecDepth 20000 in
theorem gX0_stepAbove_J9_floorMod_7cf53 : GoodIn wsX0_stepAbove (va_wsS RX0 132 yJ9_floorMod_7cf53 wsJ9_floorMod_7cf53) := goodIn_app (goodIn_of _ (by decide +kernel)) ggX0_stepAbove_J9_floorMod_7cf53
theorem dX0_stepAbove_0 : decode cX0_stepAbove 0 = .ok (.iload_n 0, 1) := by decide +kernel
theorem dX0_stepAbove_1 : decode cX0_stepAbove 1 = .ok (.bipush 12, 2) := by decide +kernel
theorem dX0_stepAbove_3 : decode cX0_stepAbove 3 = .ok (.invokestatic 132, 3) := by decide +kernel
theorem dX0_stepAbove_6 : decode cX0_stepAbove 6 = .ok (.istore_n 2, 1) := by decide +kernel
theorem dX0_stepAbove_7 : decode cX0_stepAbove 7 = .ok (.iload_n 1, 1) := by decide +kernel
theorem dX0_stepAbove_8 : decode cX0_stepAbove 8 = .ok (.bipush 7, 2) := by decide +kernel
theorem dX0_stepAbove_10 : decode cX0_stepAbove 10 = .ok (.if_icmp .ne 5, 3) := by decide +kernel
theorem dX0_stepAbove_13 : decode cX0_stepAbove 13 = .ok (.iload_n 2, 1) := by decide +kernel
theorem dX0_stepAbove_14 : decode cX0_stepAbove 14 = .ok (.ireturn, 1) := by decide +kernel
theorem dX0_stepAbove_15 : decode cX0_stepAbove 15 = .ok (.getstatic 135, 3) := by decide +kernel
theorem dX0_stepAbove_18 : decode cX0_stepAbove 18 = .ok (.iload_n 1, 1) := by decide +kernel
theorem dX0_stepAbove_19 : decode cX0_stepAbove 19 = .ok (.getstatic 135, 3) := by decide +kernel
theorem dX0_stepAbove_22 : decode cX0_stepAbove 22 = .ok (.arraylength, 1) := by decide +kernel
theorem dX0_stepAbove_23 : decode cX0_stepAbove 23 = .ok (.invokestatic 132, 3) := by decide +kernel
theorem dX0_stepAbove_26 : decode cX0_stepAbove 26 = .ok (.iaload, 1) := by decide +kernel
theorem dX0_stepAbove_27 : decode cX0_stepAbove 27 = .ok (.istore_n 3, 1) := by decide +kernel
theorem dX0_stepAbove_28 : decode cX0_stepAbove 28 = .ok (.iconst 0, 1) := by decide +kernel
theorem dX0_stepAbove_29 : decode cX0_stepAbove 29 = .ok (.istore 4, 2) := by decide +kernel
theorem dX0_stepAbove_31 : decode cX0_stepAbove 31 = .ok (.iload 4, 2) := by decide +kernel
theorem dX0_stepAbove_33 : decode cX0_stepAbove 33 = .ok (.getstatic 135, 3) := by decide +kernel
theorem dX0_stepAbove_36 : decode cX0_stepAbove 36 = .ok (.arraylength, 1) := by decide +kernel
theorem dX0_stepAbove_37 : decode cX0_stepAbove 37 = .ok (.if_icmp .ge 42, 3) := by decide +kernel
theorem dX0_stepAbove_40 : decode cX0_stepAbove 40 = .ok (.getstatic 135, 3) := by decide +kernel
theorem dX0_stepAbove_43 : decode cX0_stepAbove 43 = .ok (.iload_n 1, 1) := by decide +kernel
theorem dX0_stepAbove_44 : decode cX0_stepAbove 44 = .ok (.iload 4, 2) := by decide +kernel
theorem dX0_stepAbove_46 : decode cX0_stepAbove 46 = .ok (.iadd, 1) := by decide +kernel
theorem dX0_stepAbove_47 : decode cX0_stepAbove 47 = .ok (.getstatic 135, 3) := by decide +kernel
theorem dX0_stepAbove_50 : decode cX0_stepAbove 50 = .ok (.arraylength, 1) := by decide +kernel
theorem dX0_stepAbove_51 : decode cX0_stepAbove 51 = .ok (.invokestatic 132, 3) := by decide +kernel
theorem dX0_stepAbove_54 : decode cX0_stepAbove 54 = .ok (.iaload, 1) := by decide +kernel
theorem dX0_stepAbove_55 : decode cX0_stepAbove 55 = .ok (.istore 5, 2) := by decide +kernel
theorem dX0_stepAbove_57 : decode cX0_stepAbove 57 = .ok (.iload 5, 2) := by decide +kernel
theorem dX0_stepAbove_59 : decode cX0_stepAbove 59 = .ok (.iload_n 3, 1) := by decide +kernel
theorem dX0_stepAbove_60 : decode cX0_stepAbove 60 = .ok (.isub, 1) := by decide +kernel
theorem dX0_stepAbove_61 : decode cX0_stepAbove 61 = .ok (.bipush 12, 2) := by decide +kernel
theorem dX0_stepAbove_63 : decode cX0_stepAbove 63 = .ok (.invokestatic 132, 3) := by decide +kernel
theorem dX0_stepAbove_66 : decode cX0_stepAbove 66 = .ok (.iload_n 2, 1) := by decide +kernel
theorem dX0_stepAbove_67 : decode cX0_stepAbove 67 = .ok (.if_icmp .ne 6, 3) := by decide +kernel
theorem dX0_stepAbove_70 : decode cX0_stepAbove 70 = .ok (.iload 4, 2) := by decide +kernel
theorem dX0_stepAbove_72 : decode cX0_stepAbove 72 = .ok (.ireturn, 1) := by decide +kernel
theorem dX0_stepAbove_73 : decode cX0_stepAbove 73 = .ok (.iinc 4 1, 3) := by decide +kernel
theorem dX0_stepAbove_76 : decode cX0_stepAbove 76 = .ok (.goto (-45), 3) := by decide +kernel
theorem dX0_stepAbove_79 : decode cX0_stepAbove 79 = .ok (.iconst (-1), 1) := by decide +kernel
theorem dX0_stepAbove_80 : decode cX0_stepAbove 80 = .ok (.ireturn, 1) := by decide +kernel
set_option maxRecDepth 20000 in
theorem ggX0_nearestRung_X0_rungNotAbove : GoodIn wsX0_nearestRung wsX0_rungNotAbove := goodIn_r _ [5, 6, 7, 8, 4, 9, 10, 11, 12, 13, 14, 15, 16, 17, 18, 19, 24, 25, 26, 27, 28, 29, 30, 31, 32, 33, 34, 35] (by decide +kernel) (by decide +kernel)
set_option maxRecDepth 20000 in
theorem gX0_nearestRung_X0_rungNotAbove : GoodIn wsX0_nearestRung (wsV RX0 138 RX0 yX0_rungNotAbove wsX0_rungNotAbove) := goodIn_app (goodIn_of _ (by decide +kernel)) ggX0_nearestRung_X0_rungNotAbove
set_option maxRecDepth 20000 in
theorem ggX0_nearestRung_X0_rungAbove : GoodIn wsX0_nearestRung wsX0_rungAbove := goodIn_r _ [23, 6, 7, 8, 4, 9, 10, 11, 12, 13, 14, 15, 16, 17, 18, 19, 24, 25, 26, 27, 28, 29, 30, 31, 32, 33, 34, 35] (by decide +kernel) (by decide +kernel)
set_option maxRecDepth 20000 in
theorem gX0_nearestRung_X0_rungAbove : GoodIn wsX0_nearestRung (wsV RX0 141 RX0 yX0_rungAbove wsX0_rungAbove) := goodIn_app (goodIn_of _ (by decide +kernel)) ggX0_nearestRung_X0_rungAbove
theorem dX0_nearestRung_0 : decode cX0_nearestRung 0 = .ok (.aload_n 0, 1) := by decide +kernel
theorem dX0_nearestRung_1 : decode cX0_nearestRung 1 = .ok (.iload_n 1, 1) := by decide +kernel
theorem dX0_nearestRung_2 : decode cX0_nearestRung 2 = .ok (.invokevirtual 138, 3) := by decide +kernel
theorem dX0_nearestRung_5 : decode cX0_nearestRung 5 = .ok (.istore_n 2, 1) := by decide +kernel
theorem dX0_nearestRung_6 : decode cX0_nearestRung 6 = .ok (.aload_n 0, 1) := by decide +kernel
theorem dX0_nearestRung_7 : decode cX0_nearestRung 7 = .ok (.iload_n 1, 1) := by decide +kernel
theorem dX0_nearestRung_8 : decode cX0_nearestRung 8 = .ok (.invokevirtual 141, 3) := by decide +kernel
theorem dX0_nearestRung_11 : decode cX0_nearestRung 11 = .ok (.istore_n 3, 1) := by decide +kernel
theorem dX0_nearestRung_12 : decode cX0_nearestRung 12 = .ok (.iload_n 2, 1) := by decide +kernel
theorem dX0_nearestRung_13 : decode cX0_nearestRung 13 = .ok (.iconst (-1), 1) := by decide +kernel
theorem dX0_nearestRung_14 : decode cX0_nearestRung 14 = .ok (.if_icmp .ne 5, 3) := by decide +kernel
theorem dX0_nearestRung_17 : decode cX0_nearestRung 17 = .ok (.iload_n 3, 1) := by decide +kernel
theorem dX0_nearestRung_18 : decode cX0_nearestRung 18 = .ok (.ireturn, 1) := by decide +kernel
theorem dX0_nearestRung_19 : decode cX0_nearestRung 19 = .ok (.iload_n 3, 1) := by decide +kernel
theorem dX0_nearestRung_20 : decode cX0_nearestRung 20 = .ok (.iconst (-1), 1) := by decide +kernel
theorem dX0_nearestRung_21 : decode cX0_nearestRung 21 = .ok (.if_icmp .eq 12, 3) := by decide +kernel
theorem dX0_nearestRung_24 : decode cX0_nearestRung 24 = .ok (.iload_n 1, 1) := by decide +kernel
theorem dX0_nearestRung_25 : decode cX0_nearestRung 25 = .ok (.iload_n 2, 1) := by decide +kernel
theorem dX0_nearestRung_26 : decode cX0_nearestRung 26 = .ok (.isub, 1) := by decide +kernel
theorem dX0_nearestRung_27 : decode cX0_nearestRung 27 = .ok (.iload_n 3, 1) := by decide +kernel
theorem dX0_nearestRung_28 : decode cX0_nearestRung 28 = .ok (.iload_n 1, 1) := by decide +kernel
theorem dX0_nearestRung_29 : decode cX0_nearestRung 29 = .ok (.isub, 1) := by decide +kernel
theorem dX0_nearestRung_30 : decode cX0_nearestRung 30 = .ok (.if_icmp .gt 5, 3) := by decide +kernel
theorem dX0_nearestRung_33 : decode cX0_nearestRung 33 = .ok (.iload_n 2, 1) := by decide +kernel
theorem dX0_nearestRung_34 : decode cX0_nearestRung 34 = .ok (.ireturn, 1) := by decide +kernel
theorem dX0_nearestRung_35 : decode cX0_nearestRung 35 = .ok (.iload_n 3, 1) := by decide +kernel
theorem dX0_nearestRung_36 : decode cX0_nearestRung 36 = .ok (.ireturn, 1) := by decide +kernel
set_option maxRecDepth 20000 in
theorem ggX0_rungNotAbove_X0_stepAt : GoodIn wsX0_rungNotAbove wsX0_stepAt := goodIn_r _ [5, 6, 7, 8, 9, 4, 10, 11, 12, 13, 14, 15, 16, 17, 18, 19, 20, 21, 22, 23, 24, 25, 26, 27] (by decide +kernel) (by decide +kernel)
set_option maxRecDepth 20000 in
theorem gX0_rungNotAbove_X0_stepAt : GoodIn wsX0_rungNotAbove (wsV RX0 82 RX0 yX0_stepAt wsX0_stepAt) := goodIn_app (goodIn_of _ (by decide +kernel)) ggX0_rungNotAbove_X0_stepAt
theorem dX0_rungNotAbove_0 : decode cX0_rungNotAbove 0 = .ok (.iload_n 1, 1) := by decide +kernel
theorem dX0_rungNotAbove_1 : decode cX0_rungNotAbove 1 = .ok (.iload_n 1, 1) := by decide +kernel
theorem dX0_rungNotAbove_2 : decode cX0_rungNotAbove 2 = .ok (.bipush 100, 2) := by decide +kernel
theorem dX0_rungNotAbove_4 : decode cX0_rungNotAbove 4 = .ok (.irem, 1) := by decide +kernel
theorem dX0_rungNotAbove_5 : decode cX0_rungNotAbove 5 = .ok (.isub, 1) := by decide +kernel
theorem dX0_rungNotAbove_6 : decode cX0_rungNotAbove 6 = .ok (.istore_n 2, 1) := by decide +kernel
theorem dX0_rungNotAbove_7 : decode cX0_rungNotAbove 7 = .ok (.iload_n 2, 1) := by decide +kernel
theorem dX0_rungNotAbove_8 : decode cX0_rungNotAbove 8 = .ok (.ifCond .lt 20, 3) := by decide +kernel
theorem dX0_rungNotAbove_11 : decode cX0_rungNotAbove 11 = .ok (.aload_n 0, 1) := by decide +kernel
theorem dX0_rungNotAbove_12 : decode cX0_rungNotAbove 12 = .ok (.iload_n 2, 1) := by decide +kernel
theorem dX0_rungNotAbove_13 : decode cX0_rungNotAbove 13 = .ok (.invokevirtual 82, 3) := by decide +kernel
theorem dX0_rungNotAbove_16 : decode cX0_rungNotAbove 16 = .ok (.iconst (-1), 1) := by decide +kernel
theorem dX0_rungNotAbove_17 : decode cX0_rungNotAbove 17 = .ok (.if_icmp .eq 5, 3) := by decide +kernel
theorem dX0_rungNotAbove_20 : decode cX0_rungNotAbove 20 = .ok (.iload_n 2, 1) := by decide +kernel
theorem dX0_rungNotAbove_21 : decode cX0_rungNotAbove 21 = .ok (.ireturn, 1) := by decide +kernel
theorem dX0_rungNotAbove_22 : decode cX0_rungNotAbove 22 = .ok (.iinc 2 (-100), 3) := by decide +kernel
theorem dX0_rungNotAbove_25 : decode cX0_rungNotAbove 25 = .ok (.goto (-18), 3) := by decide +kernel
theorem dX0_rungNotAbove_28 : decode cX0_rungNotAbove 28 = .ok (.iconst (-1), 1) := by decide +kernel
theorem dX0_rungNotAbove_29 : decode cX0_rungNotAbove 29 = .ok (.ireturn, 1) := by decide +kernel
set_option maxRecDepth 20000 in
theorem ggX0_rungAbove_X0_stepAt : GoodIn wsX0_rungAbove wsX0_stepAt := goodIn_r _ [5, 6, 7, 8, 9, 4, 10, 11, 12, 13, 14, 15, 16, 17, 18, 19, 20, 21, 22, 23, 24, 25, 26, 27] (by decide +kernel) (by decide +kernel)
set_option maxRecDepth 20000 in
theorem gX0_rungAbove_X0_stepAt : GoodIn wsX0_rungAbove (wsV RX0 82 RX0 yX0_stepAt wsX0_stepAt) := goodIn_app (goodIn_of _ (by decide +kernel)) ggX0_rungAbove_X0_stepAt
theorem dX0_rungAbove_0 : decode cX0_rungAbove 0 = .ok (.iload_n 1, 1) := by decide +kernel
theorem dX0_rungAbove_1 : decode cX0_rungAbove 1 = .ok (.iload_n 1, 1) := by decide +kernel
theorem dX0_rungAbove_2 : decode cX0_rungAbove 2 = .ok (.bipush 100, 2) := by decide +kernel
theorem dX0_rungAbove_4 : decode cX0_rungAbove 4 = .ok (.irem, 1) := by decide +kernel
theorem dX0_rungAbove_5 : decode cX0_rungAbove 5 = .ok (.isub, 1) := by decide +kernel
theorem dX0_rungAbove_6 : decode cX0_rungAbove 6 = .ok (.bipush 100, 2) := by decide +kernel
theorem dX0_rungAbove_8 : decode cX0_rungAbove 8 = .ok (.iadd, 1) := by decide +kernel
theorem dX0_rungAbove_9 : decode cX0_rungAbove 9 = .ok (.istore_n 2, 1) := by decide +kernel
theorem dX0_rungAbove_10 : decode cX0_rungAbove 10 = .ok (.iload_n 2, 1) := by decide +kernel
theorem dX0_rungAbove_11 : decode cX0_rungAbove 11 = .ok (.sipush 12000, 3) := by decide +kernel
theorem dX0_rungAbove_14 : decode cX0_rungAbove 14 = .ok (.if_icmp .gt 20, 3) := by decide +kernel
theorem dX0_rungAbove_17 : decode cX0_rungAbove 17 = .ok (.aload_n 0, 1) := by decide +kernel
theorem dX0_rungAbove_18 : decode cX0_rungAbove 18 = .ok (.iload_n 2, 1) := by decide +kernel
theorem dX0_rungAbove_19 : decode cX0_rungAbove 19 = .ok (.invokevirtual 82, 3) := by decide +kernel
theorem dX0_rungAbove_22 : decode cX0_rungAbove 22 = .ok (.iconst (-1), 1) := by decide +kernel
theorem dX0_rungAbove_23 : decode cX0_rungAbove 23 = .ok (.if_icmp .eq 5, 3) := by decide +kernel
theorem dX0_rungAbove_26 : decode cX0_rungAbove 26 = .ok (.iload_n 2, 1) := by decide +kernel
theorem dX0_rungAbove_27 : decode cX0_rungAbove 27 = .ok (.ireturn, 1) := by decide +kernel
theorem dX0_rungAbove_28 : decode cX0_rungAbove 28 = .ok (.iinc 2 100, 3) := by decide +kernel
theorem dX0_rungAbove_31 : decode cX0_rungAbove 31 = .ok (.goto (-21), 3) := by decide +kernel
theorem dX0_rungAbove_34 : decode cX0_rungAbove 34 = .ok (.iconst (-1), 1) := by decide +kernel
theorem dX0_rungAbove_35 : decode cX0_rungAbove 35 = .ok (.ireturn, 1) := by decide +kernel
set_option maxRecDepth 20000 in
theorem ggX0_nearestSemitone_J9_floorMod_7cf53 : GoodIn wsX0_nearestSemitone wsJ9_floorMod_7cf53 := goodIn_r _ [4] (by decide +kernel) (by decide +kernel)
set_option maxRecDepth 20000 in
theorem gX0_nearestSemitone_J9_floorMod_7cf53 : GoodIn wsX0_nearestSemitone (va_wsS RX0 132 yJ9_floorMod_7cf53 wsJ9_floorMod_7cf53) := goodIn_app (goodIn_of _ (by decide +kernel)) ggX0_nearestSemitone_J9_floorMod_7cf53
theorem dX0_nearestSemitone_0 : decode cX0_nearestSemitone 0 = .ok (.iload_n 0, 1) := by decide +kernel
theorem dX0_nearestSemitone_1 : decode cX0_nearestSemitone 1 = .ok (.bipush 50, 2) := by decide +kernel
theorem dX0_nearestSemitone_3 : decode cX0_nearestSemitone 3 = .ok (.iadd, 1) := by decide +kernel
theorem dX0_nearestSemitone_4 : decode cX0_nearestSemitone 4 = .ok (.bipush 100, 2) := by decide +kernel
theorem dX0_nearestSemitone_6 : decode cX0_nearestSemitone 6 = .ok (.idiv, 1) := by decide +kernel
theorem dX0_nearestSemitone_7 : decode cX0_nearestSemitone 7 = .ok (.bipush 12, 2) := by decide +kernel
theorem dX0_nearestSemitone_9 : decode cX0_nearestSemitone 9 = .ok (.invokestatic 132, 3) := by decide +kernel
theorem dX0_nearestSemitone_12 : decode cX0_nearestSemitone 12 = .ok (.ireturn, 1) := by decide +kernel
set_option maxRecDepth 20000 in
theorem ggX0_framesWithin_X0_stepAbove : GoodIn wsX0_framesWithin wsX0_stepAbove := goodIn_r _ [5, 6, 7, 8, 9, 10] (by decide +kernel) (by decide +kernel)
set_option maxRecDepth 20000 in
theorem gX0_framesWithin_X0_stepAbove : GoodIn wsX0_framesWithin (va_wsS RX0 129 yX0_stepAbove wsX0_stepAbove) := goodIn_app (goodIn_of _ (by decide +kernel)) ggX0_framesWithin_X0_stepAbove
theorem dX0_framesWithin_0 : decode cX0_framesWithin 0 = .ok (.iconst 0, 1) := by decide +kernel
theorem dX0_framesWithin_1 : decode cX0_framesWithin 1 = .ok (.istore_n 3, 1) := by decide +kernel
theorem dX0_framesWithin_2 : decode cX0_framesWithin 2 = .ok (.iconst 0, 1) := by decide +kernel
theorem dX0_framesWithin_3 : decode cX0_framesWithin 3 = .ok (.istore 4, 2) := by decide +kernel
theorem dX0_framesWithin_5 : decode cX0_framesWithin 5 = .ok (.iload 4, 2) := by decide +kernel
theorem dX0_framesWithin_7 : decode cX0_framesWithin 7 = .ok (.bipush 12, 2) := by decide +kernel
theorem dX0_framesWithin_9 : decode cX0_framesWithin 9 = .ok (.if_icmp .ge 31, 3) := by decide +kernel
theorem dX0_framesWithin_12 : decode cX0_framesWithin 12 = .ok (.iload 4, 2) := by decide +kernel
theorem dX0_framesWithin_14 : decode cX0_framesWithin 14 = .ok (.iload_n 1, 1) := by decide +kernel
theorem dX0_framesWithin_15 : decode cX0_framesWithin 15 = .ok (.isub, 1) := by decide +kernel
theorem dX0_framesWithin_16 : decode cX0_framesWithin 16 = .ok (.iload_n 2, 1) := by decide +kernel
theorem dX0_framesWithin_17 : decode cX0_framesWithin 17 = .ok (.invokestatic 129, 3) := by decide +kernel
theorem dX0_framesWithin_20 : decode cX0_framesWithin 20 = .ok (.iconst (-1), 1) := by decide +kernel
theorem dX0_framesWithin_21 : decode cX0_framesWithin 21 = .ok (.if_icmp .eq 13, 3) := by decide +kernel
theorem dX0_framesWithin_24 : decode cX0_framesWithin 24 = .ok (.iload_n 3, 1) := by decide +kernel
theorem dX0_framesWithin_25 : decode cX0_framesWithin 25 = .ok (.aload_n 0, 1) := by decide +kernel
theorem dX0_framesWithin_26 : decode cX0_framesWithin 26 = .ok (.getfield 28, 3) := by decide +kernel
theorem dX0_framesWithin_29 : decode cX0_framesWithin 29 = .ok (.iload 4, 2) := by decide +kernel
theorem dX0_framesWithin_31 : decode cX0_framesWithin 31 = .ok (.iaload, 1) := by decide +kernel
theorem dX0_framesWithin_32 : decode cX0_framesWithin 32 = .ok (.iadd, 1) := by decide +kernel
theorem dX0_framesWithin_33 : decode cX0_framesWithin 33 = .ok (.istore_n 3, 1) := by decide +kernel
theorem dX0_framesWithin_34 : decode cX0_framesWithin 34 = .ok (.iinc 4 1, 3) := by decide +kernel
theorem dX0_framesWithin_37 : decode cX0_framesWithin 37 = .ok (.goto (-32), 3) := by decide +kernel
theorem dX0_framesWithin_40 : decode cX0_framesWithin 40 = .ok (.iload_n 3, 1) := by decide +kernel
theorem dX0_framesWithin_41 : decode cX0_framesWithin 41 = .ok (.ireturn, 1) := by decide +kernel
theorem dX0_areInOctaves_0 : decode cX0_areInOctaves 0 = .ok (.iload_n 0, 1) := by decide +kernel
theorem dX0_areInOctaves_1 : decode cX0_areInOctaves 1 = .ok (.iconst (-1), 1) := by decide +kernel
theorem dX0_areInOctaves_2 : decode cX0_areInOctaves 2 = .ok (.if_icmp .eq 22, 3) := by decide +kernel
theorem dX0_areInOctaves_5 : decode cX0_areInOctaves 5 = .ok (.iload_n 1, 1) := by decide +kernel
theorem dX0_areInOctaves_6 : decode cX0_areInOctaves 6 = .ok (.iconst (-1), 1) := by decide +kernel
theorem dX0_areInOctaves_7 : decode cX0_areInOctaves 7 = .ok (.if_icmp .eq 17, 3) := by decide +kernel
theorem dX0_areInOctaves_10 : decode cX0_areInOctaves 10 = .ok (.iload_n 0, 1) := by decide +kernel
theorem dX0_areInOctaves_11 : decode cX0_areInOctaves 11 = .ok (.iload_n 1, 1) := by decide +kernel
theorem dX0_areInOctaves_12 : decode cX0_areInOctaves 12 = .ok (.isub, 1) := by decide +kernel
theorem dX0_areInOctaves_13 : decode cX0_areInOctaves 13 = .ok (.sipush 1200, 3) := by decide +kernel
theorem dX0_areInOctaves_16 : decode cX0_areInOctaves 16 = .ok (.irem, 1) := by decide +kernel
theorem dX0_areInOctaves_17 : decode cX0_areInOctaves 17 = .ok (.ifCond .ne 7, 3) := by decide +kernel
theorem dX0_areInOctaves_20 : decode cX0_areInOctaves 20 = .ok (.iconst 1, 1) := by decide +kernel
theorem dX0_areInOctaves_21 : decode cX0_areInOctaves 21 = .ok (.goto 4, 3) := by decide +kernel
theorem dX0_areInOctaves_24 : decode cX0_areInOctaves 24 = .ok (.iconst 0, 1) := by decide +kernel
theorem dX0_areInOctaves_25 : decode cX0_areInOctaves 25 = .ok (.ireturn, 1) := by decide +kernel
theorem dJ9_floorDiv_7cf53_0 : decode cJ9_floorDiv_7cf53 0 = .ok (.iload_n 0, 1) := by decide +kernel
theorem dJ9_floorDiv_7cf53_1 : decode cJ9_floorDiv_7cf53 1 = .ok (.iload_n 1, 1) := by decide +kernel
theorem dJ9_floorDiv_7cf53_2 : decode cJ9_floorDiv_7cf53 2 = .ok (.idiv, 1) := by decide +kernel
theorem dJ9_floorDiv_7cf53_3 : decode cJ9_floorDiv_7cf53 3 = .ok (.istore_n 2, 1) := by decide +kernel
theorem dJ9_floorDiv_7cf53_4 : decode cJ9_floorDiv_7cf53 4 = .ok (.iload_n 0, 1) := by decide +kernel
theorem dJ9_floorDiv_7cf53_5 : decode cJ9_floorDiv_7cf53 5 = .ok (.iload_n 1, 1) := by decide +kernel
theorem dJ9_floorDiv_7cf53_6 : decode cJ9_floorDiv_7cf53 6 = .ok (.ixor, 1) := by decide +kernel
theorem dJ9_floorDiv_7cf53_7 : decode cJ9_floorDiv_7cf53 7 = .ok (.ifCond .ge 14, 3) := by decide +kernel
theorem dJ9_floorDiv_7cf53_10 : decode cJ9_floorDiv_7cf53 10 = .ok (.iload_n 2, 1) := by decide +kernel
theorem dJ9_floorDiv_7cf53_11 : decode cJ9_floorDiv_7cf53 11 = .ok (.iload_n 1, 1) := by decide +kernel
theorem dJ9_floorDiv_7cf53_12 : decode cJ9_floorDiv_7cf53 12 = .ok (.imul, 1) := by decide +kernel
theorem dJ9_floorDiv_7cf53_13 : decode cJ9_floorDiv_7cf53 13 = .ok (.iload_n 0, 1) := by decide +kernel
theorem dJ9_floorDiv_7cf53_14 : decode cJ9_floorDiv_7cf53 14 = .ok (.if_icmp .eq 7, 3) := by decide +kernel
theorem dJ9_floorDiv_7cf53_17 : decode cJ9_floorDiv_7cf53 17 = .ok (.iload_n 2, 1) := by decide +kernel
theorem dJ9_floorDiv_7cf53_18 : decode cJ9_floorDiv_7cf53 18 = .ok (.iconst 1, 1) := by decide +kernel
theorem dJ9_floorDiv_7cf53_19 : decode cJ9_floorDiv_7cf53 19 = .ok (.isub, 1) := by decide +kernel
theorem dJ9_floorDiv_7cf53_20 : decode cJ9_floorDiv_7cf53 20 = .ok (.ireturn, 1) := by decide +kernel
theorem dJ9_floorDiv_7cf53_21 : decode cJ9_floorDiv_7cf53 21 = .ok (.iload_n 2, 1) := by decide +kernel
theorem dJ9_floorDiv_7cf53_22 : decode cJ9_floorDiv_7cf53 22 = .ok (.ireturn, 1) := by decide +kernel
theorem dJ9_floorMod_7cf53_0 : decode cJ9_floorMod_7cf53 0 = .ok (.iload_n 0, 1) := by decide +kernel
theorem dJ9_floorMod_7cf53_1 : decode cJ9_floorMod_7cf53 1 = .ok (.iload_n 1, 1) := by decide +kernel
theorem dJ9_floorMod_7cf53_2 : decode cJ9_floorMod_7cf53 2 = .ok (.irem, 1) := by decide +kernel
theorem dJ9_floorMod_7cf53_3 : decode cJ9_floorMod_7cf53 3 = .ok (.istore_n 2, 1) := by decide +kernel
theorem dJ9_floorMod_7cf53_4 : decode cJ9_floorMod_7cf53 4 = .ok (.iload_n 0, 1) := by decide +kernel
theorem dJ9_floorMod_7cf53_5 : decode cJ9_floorMod_7cf53 5 = .ok (.iload_n 1, 1) := by decide +kernel
theorem dJ9_floorMod_7cf53_6 : decode cJ9_floorMod_7cf53 6 = .ok (.ixor, 1) := by decide +kernel
theorem dJ9_floorMod_7cf53_7 : decode cJ9_floorMod_7cf53 7 = .ok (.ifCond .ge 11, 3) := by decide +kernel
theorem dJ9_floorMod_7cf53_10 : decode cJ9_floorMod_7cf53 10 = .ok (.iload_n 2, 1) := by decide +kernel
theorem dJ9_floorMod_7cf53_11 : decode cJ9_floorMod_7cf53 11 = .ok (.ifCond .eq 7, 3) := by decide +kernel
theorem dJ9_floorMod_7cf53_14 : decode cJ9_floorMod_7cf53 14 = .ok (.iload_n 2, 1) := by decide +kernel
theorem dJ9_floorMod_7cf53_15 : decode cJ9_floorMod_7cf53 15 = .ok (.iload_n 1, 1) := by decide +kernel
theorem dJ9_floorMod_7cf53_16 : decode cJ9_floorMod_7cf53 16 = .ok (.iadd, 1) := by decide +kernel
theorem dJ9_floorMod_7cf53_17 : decode cJ9_floorMod_7cf53 17 = .ok (.ireturn, 1) := by decide +kernel
theorem dJ9_floorMod_7cf53_18 : decode cJ9_floorMod_7cf53 18 = .ok (.iload_n 2, 1) := by decide +kernel
theorem dJ9_floorMod_7cf53_19 : decode cJ9_floorMod_7cf53 19 = .ok (.ireturn, 1) := by decide +kernel
theorem dJ9_abs_0f7a4_0 : decode cJ9_abs_0f7a4 0 = .ok (.iload_n 0, 1) := by decide +kernel
theorem dJ9_abs_0f7a4_1 : decode cJ9_abs_0f7a4 1 = .ok (.ifCond .ge 8, 3) := by decide +kernel
theorem dJ9_abs_0f7a4_4 : decode cJ9_abs_0f7a4 4 = .ok (.iload_n 0, 1) := by decide +kernel
theorem dJ9_abs_0f7a4_5 : decode cJ9_abs_0f7a4 5 = .ok (.ineg, 1) := by decide +kernel
theorem dJ9_abs_0f7a4_6 : decode cJ9_abs_0f7a4 6 = .ok (.goto 4, 3) := by decide +kernel
theorem dJ9_abs_0f7a4_9 : decode cJ9_abs_0f7a4 9 = .ok (.iload_n 0, 1) := by decide +kernel
theorem dJ9_abs_0f7a4_10 : decode cJ9_abs_0f7a4 10 = .ok (.ireturn, 1) := by decide +kernel
theorem dJ9_max_7cf53_0 : decode cJ9_max_7cf53 0 = .ok (.iload_n 0, 1) := by decide +kernel
theorem dJ9_max_7cf53_1 : decode cJ9_max_7cf53 1 = .ok (.iload_n 1, 1) := by decide +kernel
theorem dJ9_max_7cf53_2 : decode cJ9_max_7cf53 2 = .ok (.if_icmp .lt 7, 3) := by decide +kernel
theorem dJ9_max_7cf53_5 : decode cJ9_max_7cf53 5 = .ok (.iload_n 0, 1) := by decide +kernel
theorem dJ9_max_7cf53_6 : decode cJ9_max_7cf53 6 = .ok (.goto 4, 3) := by decide +kernel
theorem dJ9_max_7cf53_9 : decode cJ9_max_7cf53 9 = .ok (.iload_n 1, 1) := by decide +kernel
theorem dJ9_max_7cf53_10 : decode cJ9_max_7cf53 10 = .ok (.ireturn, 1) := by decide +kernel
theorem dJ9_min_7cf53_0 : decode cJ9_min_7cf53 0 = .ok (.iload_n 0, 1) := by decide +kernel
theorem dJ9_min_7cf53_1 : decode cJ9_min_7cf53 1 = .ok (.iload_n 1, 1) := by decide +kernel
theorem dJ9_min_7cf53_2 : decode cJ9_min_7cf53 2 = .ok (.if_icmp .gt 7, 3) := by decide +kernel
theorem dJ9_min_7cf53_5 : decode cJ9_min_7cf53 5 = .ok (.iload_n 0, 1) := by decide +kernel
theorem dJ9_min_7cf53_6 : decode cJ9_min_7cf53 6 = .ok (.goto 4, 3) := by decide +kernel
theorem dJ9_min_7cf53_9 : decode cJ9_min_7cf53 9 = .ok (.iload_n 1, 1) := by decide +kernel
theorem dJ9_min_7cf53_10 : decode cJ9_min_7cf53 10 = .ok (.ireturn, 1) := by decide +kernel
