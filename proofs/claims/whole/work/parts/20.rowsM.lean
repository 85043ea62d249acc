theorem dX1_init_0 : decode cX1_init 0 = .ok (.aload_n 0, 1) := by decide +kernel
theorem dX1_init_1 : decode cX1_init 1 = .ok (.invokespecial 1, 3) := by decide +kernel
theorem dX1_init_4 : decode cX1_init 4 = .ok (.aload_n 0, 1) := by decide +kernel
theorem dX1_init_5 : decode cX1_init 5 = .ok (.bipush 100, 2) := by decide +kernel
theorem dX1_init_7 : decode cX1_init 7 = .ok (.putfield 7, 3) := by decide +kernel
theorem dX1_init_10 : decode cX1_init 10 = .ok (.aload_n 0, 1) := by decide +kernel
theorem dX1_init_11 : decode cX1_init 11 = .ok (.bipush 60, 2) := by decide +kernel
theorem dX1_init_13 : decode cX1_init 13 = .ok (.putfield 13, 3) := by decide +kernel
theorem dX1_init_16 : decode cX1_init 16 = .ok (.aload_n 0, 1) := by decide +kernel
theorem dX1_init_17 : decode cX1_init 17 = .ok (.sipush 400, 3) := by decide +kernel
theorem dX1_init_20 : decode cX1_init 20 = .ok (.putfield 16, 3) := by decide +kernel
theorem dX1_init_23 : decode cX1_init 23 = .ok (.aload_n 0, 1) := by decide +kernel
theorem dX1_init_24 : decode cX1_init 24 = .ok (.iconst 4, 1) := by decide +kernel
theorem dX1_init_25 : decode cX1_init 25 = .ok (.newarray .int, 2) := by decide +kernel
theorem dX1_init_27 : decode cX1_init 27 = .ok (.putfield 19, 3) := by decide +kernel
theorem dX1_init_30 : decode cX1_init 30 = .ok (.aload_n 0, 1) := by decide +kernel
theorem dX1_init_31 : decode cX1_init 31 = .ok (.iconst 4, 1) := by decide +kernel
theorem dX1_init_32 : decode cX1_init 32 = .ok (.newarray .int, 2) := by decide +kernel
theorem dX1_init_34 : decode cX1_init 34 = .ok (.putfield 23, 3) := by decide +kernel
theorem dX1_init_37 : decode cX1_init 37 = .ok (.aload_n 0, 1) := by decide +kernel
theorem dX1_init_38 : decode cX1_init 38 = .ok (.iconst 4, 1) := by decide +kernel
theorem dX1_init_39 : decode cX1_init 39 = .ok (.newarray .int, 2) := by decide +kernel
theorem dX1_init_41 : decode cX1_init 41 = .ok (.putfield 26, 3) := by decide +kernel
theorem dX1_init_44 : decode cX1_init 44 = .ok (.aload_n 0, 1) := by decide +kernel
theorem dX1_init_45 : decode cX1_init 45 = .ok (.iconst 4, 1) := by decide +kernel
theorem dX1_init_46 : decode cX1_init 46 = .ok (.newarray .int, 2) := by decide +kernel
theorem dX1_init_48 : decode cX1_init 48 = .ok (.putfield 29, 3) := by decide +kernel
theorem dX1_init_51 : decode cX1_init 51 = .ok (.aload_n 0, 1) := by decide +kernel
theorem dX1_init_52 : decode cX1_init 52 = .ok (.iconst 4, 1) := by decide +kernel
theorem dX1_init_53 : decode cX1_init 53 = .ok (.newarray .int, 2) := by decide +kernel
theorem dX1_init_55 : decode cX1_init 55 = .ok (.putfield 32, 3) := by decide +kernel
theorem dX1_init_58 : decode cX1_init 58 = .ok (.aload_n 0, 1) := by decide +kernel
theorem dX1_init_59 : decode cX1_init 59 = .ok (.iconst 4, 1) := by decide +kernel
theorem dX1_init_60 : decode cX1_init 60 = .ok (.newarray .int, 2) := by decide +kernel
theorem dX1_init_62 : decode cX1_init 62 = .ok (.putfield 35, 3) := by decide +kernel
theorem dX1_init_65 : decode cX1_init 65 = .ok (.aload_n 0, 1) := by decide +kernel
theorem dX1_init_66 : decode cX1_init 66 = .ok (.bipush 12, 2) := by decide +kernel
theorem dX1_init_68 : decode cX1_init 68 = .ok (.newarray .int, 2) := by decide +kernel
theorem dX1_init_70 : decode cX1_init 70 = .ok (.putfield 38, 3) := by decide +kernel
theorem dX1_init_73 : decode cX1_init 73 = .ok (.iconst 0, 1) := by decide +kernel
theorem dX1_init_74 : decode cX1_init 74 = .ok (.istore_n 1, 1) := by decide +kernel
theorem dX1_init_75 : decode cX1_init 75 = .ok (.iload_n 1, 1) := by decide +kernel
theorem dX1_init_76 : decode cX1_init 76 = .ok (.iconst 4, 1) := by decide +kernel
theorem dX1_init_77 : decode cX1_init 77 = .ok (.if_icmp .ge 16, 3) := by decide +kernel
theorem dX1_init_80 : decode cX1_init 80 = .ok (.aload_n 0, 1) := by decide +kernel
theorem dX1_init_81 : decode cX1_init 81 = .ok (.getfield 19, 3) := by decide +kernel
theorem dX1_init_84 : decode cX1_init 84 = .ok (.iload_n 1, 1) := by decide +kernel
theorem dX1_init_85 : decode cX1_init 85 = .ok (.iconst (-1), 1) := by decide +kernel
theorem dX1_init_86 : decode cX1_init 86 = .ok (.iastore, 1) := by decide +kernel
theorem dX1_init_87 : decode cX1_init 87 = .ok (.iinc 1 1, 3) := by decide +kernel
theorem dX1_init_90 : decode cX1_init 90 = .ok (.goto (-15), 3) := by decide +kernel
theorem dX1_init_93 : decode cX1_init 93 = .ok (.return_, 1) := by decide +kernel
theorem dX1_thrown_0 : decode cX1_thrown 0 = .ok (.aload_n 0, 1) := by decide +kernel
theorem dX1_thrown_1 : decode cX1_thrown 1 = .ok (.getfield 41, 3) := by decide +kernel
theorem dX1_thrown_4 : decode cX1_thrown 4 = .ok (.ireturn, 1) := by decide +kernel
theorem dX1_holds_0 : decode cX1_holds 0 = .ok (.aload_n 0, 1) := by decide +kernel
theorem dX1_holds_1 : decode cX1_holds 1 = .ok (.iload_n 1, 1) := by decide +kernel
theorem dX1_holds_2 : decode cX1_holds 2 = .ok (.putfield 41, 3) := by decide +kernel
theorem dX1_holds_5 : decode cX1_holds 5 = .ok (.iload_n 1, 1) := by decide +kernel
theorem dX1_holds_6 : decode cX1_holds 6 = .ok (.ifCond .ne 7, 3) := by decide +kernel
theorem dX1_holds_9 : decode cX1_holds 9 = .ok (.iconst 1, 1) := by decide +kernel
theorem dX1_holds_10 : decode cX1_holds 10 = .ok (.goto 4, 3) := by decide +kernel
theorem dX1_holds_13 : decode cX1_holds 13 = .ok (.iconst 0, 1) := by decide +kernel
theorem dX1_holds_14 : decode cX1_holds 14 = .ok (.ireturn, 1) := by decide +kernel
theorem dX1_in_0 : decode cX1_in 0 = .ok (.iload_n 0, 1) := by decide +kernel
theorem dX1_in_1 : decode cX1_in 1 = .ok (.iload_n 1, 1) := by decide +kernel
theorem dX1_in_2 : decode cX1_in 2 = .ok (.if_icmp .lt 12, 3) := by decide +kernel
theorem dX1_in_5 : decode cX1_in 5 = .ok (.iload_n 0, 1) := by decide +kernel
theorem dX1_in_6 : decode cX1_in 6 = .ok (.iload_n 2, 1) := by decide +kernel
theorem dX1_in_7 : decode cX1_in 7 = .ok (.if_icmp .gt 7, 3) := by decide +kernel
theorem dX1_in_10 : decode cX1_in 10 = .ok (.iconst 1, 1) := by decide +kernel
theorem dX1_in_11 : decode cX1_in 11 = .ok (.goto 4, 3) := by decide +kernel
theorem dX1_in_14 : decode cX1_in 14 = .ok (.iconst 0, 1) := by decide +kernel
theorem dX1_in_15 : decode cX1_in 15 = .ok (.ireturn, 1) := by decide +kernel
set_option maxRecDepth 20000 in
theorem ggX1_isScale_X1_in : GoodIn wsX1_isScale wsX1_in := goodIn_r _ [4] (by decide +kernel) (by decide +kernel)
set_option maxRecDepth 20000 in
theorem gX1_isScale_X1_in : GoodIn wsX1_isScale (va_wsS RX1 44 yX1_in wsX1_in) := goodIn_app (goodIn_of _ (by decide +kernel)) ggX1_isScale_X1_in
theorem dX1_isScale_0 : decode cX1_isScale 0 = .ok (.iload_n 0, 1) := by decide +kernel
theorem dX1_isScale_1 : decode cX1_isScale 1 = .ok (.iconst 0, 1) := by decide +kernel
theorem dX1_isScale_2 : decode cX1_isScale 2 = .ok (.bipush 11, 2) := by decide +kernel
theorem dX1_isScale_4 : decode cX1_isScale 4 = .ok (.invokestatic 44, 3) := by decide +kernel
theorem dX1_isScale_7 : decode cX1_isScale 7 = .ok (.ifCond .eq 17, 3) := by decide +kernel
theorem dX1_isScale_10 : decode cX1_isScale 10 = .ok (.iload_n 1, 1) := by decide +kernel
theorem dX1_isScale_11 : decode cX1_isScale 11 = .ok (.iconst 0, 1) := by decide +kernel
theorem dX1_isScale_12 : decode cX1_isScale 12 = .ok (.bipush 7, 2) := by decide +kernel
theorem dX1_isScale_14 : decode cX1_isScale 14 = .ok (.invokestatic 44, 3) := by decide +kernel
theorem dX1_isScale_17 : decode cX1_isScale 17 = .ok (.ifCond .eq 7, 3) := by decide +kernel
theorem dX1_isScale_20 : decode cX1_isScale 20 = .ok (.iconst 1, 1) := by decide +kernel
theorem dX1_isScale_21 : decode cX1_isScale 21 = .ok (.goto 4, 3) := by decide +kernel
theorem dX1_isScale_24 : decode cX1_isScale 24 = .ok (.iconst 0, 1) := by decide +kernel
theorem dX1_isScale_25 : decode cX1_isScale 25 = .ok (.ireturn, 1) := by decide +kernel
set_option maxRecDepth 20000 in
theorem ggX1_isWren_X1_in : GoodIn wsX1_isWren wsX1_in := goodIn_r _ [4] (by decide +kernel) (by decide +kernel)
set_option maxRecDepth 20000 in
theorem gX1_isWren_X1_in : GoodIn wsX1_isWren (va_wsS RX1 44 yX1_in wsX1_in) := goodIn_app (goodIn_of _ (by decide +kernel)) ggX1_isWren_X1_in
theorem dX1_isWren_0 : decode cX1_isWren 0 = .ok (.iload_n 0, 1) := by decide +kernel
theorem dX1_isWren_1 : decode cX1_isWren 1 = .ok (.iconst 0, 1) := by decide +kernel
theorem dX1_isWren_2 : decode cX1_isWren 2 = .ok (.iconst 3, 1) := by decide +kernel
theorem dX1_isWren_3 : decode cX1_isWren 3 = .ok (.invokestatic 44, 3) := by decide +kernel
theorem dX1_isWren_6 : decode cX1_isWren 6 = .ok (.ireturn, 1) := by decide +kernel
set_option maxRecDepth 20000 in
theorem ggX1_isPitch_X1_in : GoodIn wsX1_isPitch wsX1_in := goodIn_r _ [4] (by decide +kernel) (by decide +kernel)
set_option maxRecDepth 20000 in
theorem gX1_isPitch_X1_in : GoodIn wsX1_isPitch (va_wsS RX1 44 yX1_in wsX1_in) := goodIn_app (goodIn_of _ (by decide +kernel)) ggX1_isPitch_X1_in
theorem dX1_isPitch_0 : decode cX1_isPitch 0 = .ok (.iload_n 0, 1) := by decide +kernel
theorem dX1_isPitch_1 : decode cX1_isPitch 1 = .ok (.iconst 0, 1) := by decide +kernel
theorem dX1_isPitch_2 : decode cX1_isPitch 2 = .ok (.sipush 12000, 3) := by decide +kernel
theorem dX1_isPitch_5 : decode cX1_isPitch 5 = .ok (.invokestatic 44, 3) := by decide +kernel
theorem dX1_isPitch_8 : decode cX1_isPitch 8 = .ok (.ireturn, 1) := by decide +kernel
theorem dX1_major_0 : decode cX1_major 0 = .ok (.iload_n 0, 1) := by decide +kernel
theorem dX1_major_1 : decode cX1_major 1 = .ok (.bipush 7, 2) := by decide +kernel
theorem dX1_major_3 : decode cX1_major 3 = .ok (.idiv, 1) := by decide +kernel
theorem dX1_major_4 : decode cX1_major 4 = .ok (.bipush 12, 2) := by decide +kernel
theorem dX1_major_6 : decode cX1_major 6 = .ok (.imul, 1) := by decide +kernel
theorem dX1_major_7 : decode cX1_major 7 = .ok (.istore_n 1, 1) := by decide +kernel
theorem dX1_major_8 : decode cX1_major 8 = .ok (.iload_n 0, 1) := by decide +kernel
theorem dX1_major_9 : decode cX1_major 9 = .ok (.bipush 7, 2) := by decide +kernel
theorem dX1_major_11 : decode cX1_major 11 = .ok (.irem, 1) := by decide +kernel
theorem dX1_major_12 : decode cX1_major 12 = .ok (.istore_n 2, 1) := by decide +kernel
theorem dX1_major_13 : decode cX1_major 13 = .ok (.iload_n 1, 1) := by decide +kernel
theorem dX1_major_14 : decode cX1_major 14 = .ok (.iload_n 2, 1) := by decide +kernel
theorem dX1_major_15 : decode cX1_major 15 = .ok (.iconst 3, 1) := by decide +kernel
theorem dX1_major_16 : decode cX1_major 16 = .ok (.if_icmp .ge 9, 3) := by decide +kernel
theorem dX1_major_19 : decode cX1_major 19 = .ok (.iconst 2, 1) := by decide +kernel
theorem dX1_major_20 : decode cX1_major 20 = .ok (.iload_n 2, 1) := by decide +kernel
theorem dX1_major_21 : decode cX1_major 21 = .ok (.imul, 1) := by decide +kernel
theorem dX1_major_22 : decode cX1_major 22 = .ok (.goto 8, 3) := by decide +kernel
theorem dX1_major_25 : decode cX1_major 25 = .ok (.iconst 2, 1) := by decide +kernel
theorem dX1_major_26 : decode cX1_major 26 = .ok (.iload_n 2, 1) := by decide +kernel
theorem dX1_major_27 : decode cX1_major 27 = .ok (.imul, 1) := by decide +kernel
theorem dX1_major_28 : decode cX1_major 28 = .ok (.iconst 1, 1) := by decide +kernel
theorem dX1_major_29 : decode cX1_major 29 = .ok (.isub, 1) := by decide +kernel
theorem dX1_major_30 : decode cX1_major 30 = .ok (.iadd, 1) := by decide +kernel
theorem dX1_major_31 : decode cX1_major 31 = .ok (.ireturn, 1) := by decide +kernel
theorem dX1_steps_0 : decode cX1_steps 0 = .ok (.iload_n 0, 1) := by decide +kernel
theorem dX1_steps_1 : decode cX1_steps 1 = .ok (.bipush 7, 2) := by decide +kernel
theorem dX1_steps_3 : decode cX1_steps 3 = .ok (.if_icmp .ne 8, 3) := by decide +kernel
theorem dX1_steps_6 : decode cX1_steps 6 = .ok (.bipush 12, 2) := by decide +kernel
theorem dX1_steps_8 : decode cX1_steps 8 = .ok (.goto 5, 3) := by decide +kernel
theorem dX1_steps_11 : decode cX1_steps 11 = .ok (.bipush 7, 2) := by decide +kernel
theorem dX1_steps_13 : decode cX1_steps 13 = .ok (.ireturn, 1) := by decide +kernel
set_option maxRecDepth 20000 in
theorem ggX1_semitone_X1_major : GoodIn wsX1_semitone wsX1_major := goodIn_r _ [4] (by decide +kernel) (by decide +kernel)
set_option maxRecDepth 20000 in
theorem gX1_semitone_X1_major : GoodIn wsX1_semitone (va_wsS RX1 48 yX1_major wsX1_major) := goodIn_app (goodIn_of _ (by decide +kernel)) ggX1_semitone_X1_major
theorem dX1_semitone_0 : decode cX1_semitone 0 = .ok (.iload_n 0, 1) := by decide +kernel
theorem dX1_semitone_1 : decode cX1_semitone 1 = .ok (.bipush 7, 2) := by decide +kernel
theorem dX1_semitone_3 : decode cX1_semitone 3 = .ok (.if_icmp .ne 7, 3) := by decide +kernel
theorem dX1_semitone_6 : decode cX1_semitone 6 = .ok (.iload_n 1, 1) := by decide +kernel
theorem dX1_semitone_7 : decode cX1_semitone 7 = .ok (.goto 14, 3) := by decide +kernel
theorem dX1_semitone_10 : decode cX1_semitone 10 = .ok (.iload_n 0, 1) := by decide +kernel
theorem dX1_semitone_11 : decode cX1_semitone 11 = .ok (.iload_n 1, 1) := by decide +kernel
theorem dX1_semitone_12 : decode cX1_semitone 12 = .ok (.iadd, 1) := by decide +kernel
theorem dX1_semitone_13 : decode cX1_semitone 13 = .ok (.invokestatic 48, 3) := by decide +kernel
theorem dX1_semitone_16 : decode cX1_semitone 16 = .ok (.iload_n 0, 1) := by decide +kernel
theorem dX1_semitone_17 : decode cX1_semitone 17 = .ok (.invokestatic 48, 3) := by decide +kernel
theorem dX1_semitone_20 : decode cX1_semitone 20 = .ok (.isub, 1) := by decide +kernel
theorem dX1_semitone_21 : decode cX1_semitone 21 = .ok (.ireturn, 1) := by decide +kernel
set_option maxRecDepth 20000 in
theorem ggX1_stepWith_X1_steps : GoodIn wsX1_stepWith wsX1_steps := goodIn_r _ [4] (by decide +kernel) (by decide +kernel)
set_option maxRecDepth 20000 in
theorem gX1_stepWith_X1_steps : GoodIn wsX1_stepWith (va_wsS RX1 52 yX1_steps wsX1_steps) := goodIn_app (goodIn_of _ (by decide +kernel)) ggX1_stepWith_X1_steps
set_option maxRecDepth 20000 in
theorem ggX1_stepWith_X1_semitone : GoodIn wsX1_stepWith wsX1_semitone := goodIn_r _ [7, 8, 9, 3, 10] (by decide +kernel) (by decide +kernel)
set_option maxRecDepth 20000 in
theorem gX1_stepWith_X1_semitone : GoodIn wsX1_stepWith (va_wsS RX1 55 yX1_semitone wsX1_semitone) := goodIn_app (goodIn_of _ (by decide +kernel)) ggX1_stepWith_X1_semitone
theorem dX1_stepWith_0 : decode cX1_stepWith 0 = .ok (.iconst (-1), 1) := by decide +kernel
theorem dX1_stepWith_1 : decode cX1_stepWith 1 = .ok (.istore_n 2, 1) := by decide +kernel
theorem dX1_stepWith_2 : decode cX1_stepWith 2 = .ok (.iconst 0, 1) := by decide +kernel
theorem dX1_stepWith_3 : decode cX1_stepWith 3 = .ok (.istore_n 3, 1) := by decide +kernel
theorem dX1_stepWith_4 : decode cX1_stepWith 4 = .ok (.iload_n 3, 1) := by decide +kernel
theorem dX1_stepWith_5 : decode cX1_stepWith 5 = .ok (.iload_n 0, 1) := by decide +kernel
theorem dX1_stepWith_6 : decode cX1_stepWith 6 = .ok (.invokestatic 52, 3) := by decide +kernel
theorem dX1_stepWith_9 : decode cX1_stepWith 9 = .ok (.if_icmp .ge 24, 3) := by decide +kernel
theorem dX1_stepWith_12 : decode cX1_stepWith 12 = .ok (.iload_n 0, 1) := by decide +kernel
theorem dX1_stepWith_13 : decode cX1_stepWith 13 = .ok (.iload_n 3, 1) := by decide +kernel
theorem dX1_stepWith_14 : decode cX1_stepWith 14 = .ok (.invokestatic 55, 3) := by decide +kernel
theorem dX1_stepWith_17 : decode cX1_stepWith 17 = .ok (.iload_n 1, 1) := by decide +kernel
theorem dX1_stepWith_18 : decode cX1_stepWith 18 = .ok (.if_icmp .ne 7, 3) := by decide +kernel
theorem dX1_stepWith_21 : decode cX1_stepWith 21 = .ok (.iload_n 3, 1) := by decide +kernel
theorem dX1_stepWith_22 : decode cX1_stepWith 22 = .ok (.goto 4, 3) := by decide +kernel
theorem dX1_stepWith_25 : decode cX1_stepWith 25 = .ok (.iload_n 2, 1) := by decide +kernel
theorem dX1_stepWith_26 : decode cX1_stepWith 26 = .ok (.istore_n 2, 1) := by decide +kernel
theorem dX1_stepWith_27 : decode cX1_stepWith 27 = .ok (.iinc 3 1, 3) := by decide +kernel
theorem dX1_stepWith_30 : decode cX1_stepWith 30 = .ok (.goto (-26), 3) := by decide +kernel
theorem dX1_stepWith_33 : decode cX1_stepWith 33 = .ok (.iload_n 2, 1) := by decide +kernel
theorem dX1_stepWith_34 : decode cX1_stepWith 34 = .ok (.ireturn, 1) := by decide +kernel
set_option maxRecDepth 20000 in
theorem ggX1_step_X1_isPitch : GoodIn wsX1_step wsX1_isPitch := goodIn_r _ [6, 7, 8, 5, 9] (by decide +kernel) (by decide +kernel)
set_option maxRecDepth 20000 in
theorem gX1_step_X1_isPitch : GoodIn wsX1_step (va_wsS RX1 59 yX1_isPitch wsX1_isPitch) := goodIn_app (goodIn_of _ (by decide +kernel)) ggX1_step_X1_isPitch
set_option maxRecDepth 20000 in
theorem ggX1_step_X1_stepWith : GoodIn wsX1_step wsX1_stepWith := goodIn_r _ [12, 13, 14, 5, 15, 16, 17, 18, 19, 20, 21] (by decide +kernel) (by decide +kernel)
set_option maxRecDepth 20000 in
theorem gX1_step_X1_stepWith : GoodIn wsX1_step (va_wsS RX1 69 yX1_stepWith wsX1_stepWith) := goodIn_app (goodIn_of _ (by decide +kernel)) ggX1_step_X1_stepWith
theorem dX1_step_0 : decode cX1_step 0 = .ok (.iload_n 1, 1) := by decide +kernel
theorem dX1_step_1 : decode cX1_step 1 = .ok (.invokestatic 59, 3) := by decide +kernel
theorem dX1_step_4 : decode cX1_step 4 = .ok (.ifCond .eq 35, 3) := by decide +kernel
theorem dX1_step_7 : decode cX1_step 7 = .ok (.iload_n 1, 1) := by decide +kernel
theorem dX1_step_8 : decode cX1_step 8 = .ok (.bipush 100, 2) := by decide +kernel
theorem dX1_step_10 : decode cX1_step 10 = .ok (.irem, 1) := by decide +kernel
theorem dX1_step_11 : decode cX1_step 11 = .ok (.ifCond .ne 28, 3) := by decide +kernel
theorem dX1_step_14 : decode cX1_step 14 = .ok (.aload_n 0, 1) := by decide +kernel
theorem dX1_step_15 : decode cX1_step 15 = .ok (.getfield 63, 3) := by decide +kernel
theorem dX1_step_18 : decode cX1_step 18 = .ok (.iload_n 1, 1) := by decide +kernel
theorem dX1_step_19 : decode cX1_step 19 = .ok (.bipush 100, 2) := by decide +kernel
theorem dX1_step_21 : decode cX1_step 21 = .ok (.idiv, 1) := by decide +kernel
theorem dX1_step_22 : decode cX1_step 22 = .ok (.aload_n 0, 1) := by decide +kernel
theorem dX1_step_23 : decode cX1_step 23 = .ok (.getfield 66, 3) := by decide +kernel
theorem dX1_step_26 : decode cX1_step 26 = .ok (.isub, 1) := by decide +kernel
theorem dX1_step_27 : decode cX1_step 27 = .ok (.bipush 12, 2) := by decide +kernel
theorem dX1_step_29 : decode cX1_step 29 = .ok (.iadd, 1) := by decide +kernel
theorem dX1_step_30 : decode cX1_step 30 = .ok (.bipush 12, 2) := by decide +kernel
theorem dX1_step_32 : decode cX1_step 32 = .ok (.irem, 1) := by decide +kernel
theorem dX1_step_33 : decode cX1_step 33 = .ok (.invokestatic 69, 3) := by decide +kernel
theorem dX1_step_36 : decode cX1_step 36 = .ok (.goto 4, 3) := by decide +kernel
theorem dX1_step_39 : decode cX1_step 39 = .ok (.iconst (-1), 1) := by decide +kernel
theorem dX1_step_40 : decode cX1_step 40 = .ok (.ireturn, 1) := by decide +kernel
set_option maxRecDepth 20000 in
theorem ggX1_near_X1_step : GoodIn wsX1_near wsX1_step := goodIn_r _ [5, 6, 7, 8, 9, 4, 10, 11, 12, 13, 14, 15, 16, 17, 18, 19, 20, 21, 22, 23, 24, 25, 26, 27, 28, 29, 30, 31, 32, 33, 34, 35, 36, 37, 38] (by decide +kernel) (by decide +kernel)
set_option maxRecDepth 20000 in
theorem gX1_near_X1_step : GoodIn wsX1_near (wsV RX1 72 RX1 yX1_step wsX1_step) := goodIn_app (goodIn_of _ (by decide +kernel)) ggX1_near_X1_step
theorem dX1_near_0 : decode cX1_near 0 = .ok (.iconst (-1), 1) := by decide +kernel
theorem dX1_near_1 : decode cX1_near 1 = .ok (.istore_n 2, 1) := by decide +kernel
theorem dX1_near_2 : decode cX1_near 2 = .ok (.iconst 0, 1) := by decide +kernel
theorem dX1_near_3 : decode cX1_near 3 = .ok (.istore_n 3, 1) := by decide +kernel
theorem dX1_near_4 : decode cX1_near 4 = .ok (.iload_n 3, 1) := by decide +kernel
theorem dX1_near_5 : decode cX1_near 5 = .ok (.sipush 12000, 3) := by decide +kernel
theorem dX1_near_8 : decode cX1_near 8 = .ok (.if_icmp .gt 66, 3) := by decide +kernel
theorem dX1_near_11 : decode cX1_near 11 = .ok (.iload_n 3, 1) := by decide +kernel
theorem dX1_near_12 : decode cX1_near 12 = .ok (.iload_n 1, 1) := by decide +kernel
theorem dX1_near_13 : decode cX1_near 13 = .ok (.if_icmp .ge 9, 3) := by decide +kernel
theorem dX1_near_16 : decode cX1_near 16 = .ok (.iload_n 1, 1) := by decide +kernel
theorem dX1_near_17 : decode cX1_near 17 = .ok (.iload_n 3, 1) := by decide +kernel
theorem dX1_near_18 : decode cX1_near 18 = .ok (.isub, 1) := by decide +kernel
theorem dX1_near_19 : decode cX1_near 19 = .ok (.goto 6, 3) := by decide +kernel
theorem dX1_near_22 : decode cX1_near 22 = .ok (.iload_n 3, 1) := by decide +kernel
theorem dX1_near_23 : decode cX1_near 23 = .ok (.iload_n 1, 1) := by decide +kernel
theorem dX1_near_24 : decode cX1_near 24 = .ok (.isub, 1) := by decide +kernel
theorem dX1_near_25 : decode cX1_near 25 = .ok (.istore 4, 2) := by decide +kernel
theorem dX1_near_27 : decode cX1_near 27 = .ok (.iload_n 2, 1) := by decide +kernel
theorem dX1_near_28 : decode cX1_near 28 = .ok (.iload_n 1, 1) := by decide +kernel
theorem dX1_near_29 : decode cX1_near 29 = .ok (.if_icmp .ge 9, 3) := by decide +kernel
theorem dX1_near_32 : decode cX1_near 32 = .ok (.iload_n 1, 1) := by decide +kernel
theorem dX1_near_33 : decode cX1_near 33 = .ok (.iload_n 2, 1) := by decide +kernel
theorem dX1_near_34 : decode cX1_near 34 = .ok (.isub, 1) := by decide +kernel
theorem dX1_near_35 : decode cX1_near 35 = .ok (.goto 6, 3) := by decide +kernel
theorem dX1_near_38 : decode cX1_near 38 = .ok (.iload_n 2, 1) := by decide +kernel
theorem dX1_near_39 : decode cX1_near 39 = .ok (.iload_n 1, 1) := by decide +kernel
theorem dX1_near_40 : decode cX1_near 40 = .ok (.isub, 1) := by decide +kernel
theorem dX1_near_41 : decode cX1_near 41 = .ok (.istore 5, 2) := by decide +kernel
theorem dX1_near_43 : decode cX1_near 43 = .ok (.aload_n 0, 1) := by decide +kernel
theorem dX1_near_44 : decode cX1_near 44 = .ok (.iload_n 3, 1) := by decide +kernel
theorem dX1_near_45 : decode cX1_near 45 = .ok (.invokevirtual 72, 3) := by decide +kernel
theorem dX1_near_48 : decode cX1_near 48 = .ok (.ifCond .lt 18, 3) := by decide +kernel
theorem dX1_near_51 : decode cX1_near 51 = .ok (.iload_n 2, 1) := by decide +kernel
theorem dX1_near_52 : decode cX1_near 52 = .ok (.ifCond .lt 10, 3) := by decide +kernel
theorem dX1_near_55 : decode cX1_near 55 = .ok (.iload 4, 2) := by decide +kernel
theorem dX1_near_57 : decode cX1_near 57 = .ok (.iload 5, 2) := by decide +kernel
theorem dX1_near_59 : decode cX1_near 59 = .ok (.if_icmp .ge 7, 3) := by decide +kernel
theorem dX1_near_62 : decode cX1_near 62 = .ok (.iload_n 3, 1) := by decide +kernel
theorem dX1_near_63 : decode cX1_near 63 = .ok (.goto 4, 3) := by decide +kernel
theorem dX1_near_66 : decode cX1_near 66 = .ok (.iload_n 2, 1) := by decide +kernel
theorem dX1_near_67 : decode cX1_near 67 = .ok (.istore_n 2, 1) := by decide +kernel
theorem dX1_near_68 : decode cX1_near 68 = .ok (.iinc 3 100, 3) := by decide +kernel
theorem dX1_near_71 : decode cX1_near 71 = .ok (.goto (-67), 3) := by decide +kernel
theorem dX1_near_74 : decode cX1_near 74 = .ok (.iload_n 2, 1) := by decide +kernel
theorem dX1_near_75 : decode cX1_near 75 = .ok (.ireturn, 1) := by decide +kernel
set_option maxRecDepth 20000 in
theorem ggX1_setScale_X1_isScale : GoodIn wsX1_setScale wsX1_isScale := goodIn_r _ [7, 8, 9, 6, 10] (by decide +kernel) (by decide +kernel)
set_option maxRecDepth 20000 in
theorem gX1_setScale_X1_isScale : GoodIn wsX1_setScale (va_wsS RX1 75 yX1_isScale wsX1_isScale) := goodIn_app (goodIn_of _ (by decide +kernel)) ggX1_setScale_X1_isScale
set_option maxRecDepth 20000 in
theorem ggX1_setScale_X1_holds : GoodIn wsX1_setScale wsX1_holds := goodIn_r _ [14, 15, 35, 36, 37, 38, 39, 40, 41, 42, 43, 44, 45, 46, 47] (by decide +kernel) (by decide +kernel)
set_option maxRecDepth 20000 in
theorem gX1_setScale_X1_holds : GoodIn wsX1_setScale (wsV RX1 79 RX1 yX1_holds wsX1_holds) := goodIn_app (goodIn_of _ (by decide +kernel)) ggX1_setScale_X1_holds
set_option maxRecDepth 20000 in
theorem ggX1_setScale_X1_step : GoodIn wsX1_setScale wsX1_step := goodIn_r _ [19, 2, 1, 20, 21, 6, 22, 8, 9, 10, 23, 24, 25, 26, 27, 28, 29, 30, 31, 32, 33, 34, 35, 36, 37, 38, 39, 40, 41, 42, 43, 44, 45, 46, 47] (by decide +kernel) (by decide +kernel)
set_option maxRecDepth 20000 in
theorem gX1_setScale_X1_step : GoodIn wsX1_setScale (wsV RX1 72 RX1 yX1_step wsX1_step) := goodIn_app (goodIn_of _ (by decide +kernel)) ggX1_setScale_X1_step
theorem dX1_setScale_0 : decode cX1_setScale 0 = .ok (.aload_n 0, 1) := by decide +kernel
theorem dX1_setScale_1 : decode cX1_setScale 1 = .ok (.iload_n 1, 1) := by decide +kernel
theorem dX1_setScale_2 : decode cX1_setScale 2 = .ok (.iload_n 2, 1) := by decide +kernel
theorem dX1_setScale_3 : decode cX1_setScale 3 = .ok (.invokestatic 75, 3) := by decide +kernel
theorem dX1_setScale_6 : decode cX1_setScale 6 = .ok (.ifCond .eq 7, 3) := by decide +kernel
theorem dX1_setScale_9 : decode cX1_setScale 9 = .ok (.iconst 0, 1) := by decide +kernel
theorem dX1_setScale_10 : decode cX1_setScale 10 = .ok (.goto 4, 3) := by decide +kernel
theorem dX1_setScale_13 : decode cX1_setScale 13 = .ok (.iconst 1, 1) := by decide +kernel
theorem dX1_setScale_14 : decode cX1_setScale 14 = .ok (.invokevirtual 79, 3) := by decide +kernel
theorem dX1_setScale_17 : decode cX1_setScale 17 = .ok (.ifCond .ne 5, 3) := by decide +kernel
theorem dX1_setScale_20 : decode cX1_setScale 20 = .ok (.iconst 0, 1) := by decide +kernel
theorem dX1_setScale_21 : decode cX1_setScale 21 = .ok (.ireturn, 1) := by decide +kernel
theorem dX1_setScale_22 : decode cX1_setScale 22 = .ok (.aload_n 0, 1) := by decide +kernel
theorem dX1_setScale_23 : decode cX1_setScale 23 = .ok (.iload_n 1, 1) := by decide +kernel
theorem dX1_setScale_24 : decode cX1_setScale 24 = .ok (.putfield 66, 3) := by decide +kernel
theorem dX1_setScale_27 : decode cX1_setScale 27 = .ok (.aload_n 0, 1) := by decide +kernel
theorem dX1_setScale_28 : decode cX1_setScale 28 = .ok (.iload_n 2, 1) := by decide +kernel
theorem dX1_setScale_29 : decode cX1_setScale 29 = .ok (.putfield 63, 3) := by decide +kernel
theorem dX1_setScale_32 : decode cX1_setScale 32 = .ok (.iconst 0, 1) := by decide +kernel
theorem dX1_setScale_33 : decode cX1_setScale 33 = .ok (.istore_n 3, 1) := by decide +kernel
theorem dX1_setScale_34 : decode cX1_setScale 34 = .ok (.iconst 0, 1) := by decide +kernel
theorem dX1_setScale_35 : decode cX1_setScale 35 = .ok (.istore 4, 2) := by decide +kernel
theorem dX1_setScale_37 : decode cX1_setScale 37 = .ok (.iload 4, 2) := by decide +kernel
theorem dX1_setScale_39 : decode cX1_setScale 39 = .ok (.iconst 4, 1) := by decide +kernel
theorem dX1_setScale_40 : decode cX1_setScale 40 = .ok (.if_icmp .ge 44, 3) := by decide +kernel
theorem dX1_setScale_43 : decode cX1_setScale 43 = .ok (.aload_n 0, 1) := by decide +kernel
theorem dX1_setScale_44 : decode cX1_setScale 44 = .ok (.getfield 19, 3) := by decide +kernel
theorem dX1_setScale_47 : decode cX1_setScale 47 = .ok (.iload 4, 2) := by decide +kernel
theorem dX1_setScale_49 : decode cX1_setScale 49 = .ok (.iaload, 1) := by decide +kernel
theorem dX1_setScale_50 : decode cX1_setScale 50 = .ok (.ifCond .lt 28, 3) := by decide +kernel
theorem dX1_setScale_53 : decode cX1_setScale 53 = .ok (.aload_n 0, 1) := by decide +kernel
theorem dX1_setScale_54 : decode cX1_setScale 54 = .ok (.aload_n 0, 1) := by decide +kernel
theorem dX1_setScale_55 : decode cX1_setScale 55 = .ok (.getfield 19, 3) := by decide +kernel
theorem dX1_setScale_58 : decode cX1_setScale 58 = .ok (.iload 4, 2) := by decide +kernel
theorem dX1_setScale_60 : decode cX1_setScale 60 = .ok (.iaload, 1) := by decide +kernel
theorem dX1_setScale_61 : decode cX1_setScale 61 = .ok (.invokevirtual 72, 3) := by decide +kernel
theorem dX1_setScale_64 : decode cX1_setScale 64 = .ok (.ifCond .ge 14, 3) := by decide +kernel
theorem dX1_setScale_67 : decode cX1_setScale 67 = .ok (.aload_n 0, 1) := by decide +kernel
theorem dX1_setScale_68 : decode cX1_setScale 68 = .ok (.getfield 19, 3) := by decide +kernel
theorem dX1_setScale_71 : decode cX1_setScale 71 = .ok (.iload 4, 2) := by decide +kernel
theorem dX1_setScale_73 : decode cX1_setScale 73 = .ok (.iconst (-1), 1) := by decide +kernel
theorem dX1_setScale_74 : decode cX1_setScale 74 = .ok (.iastore, 1) := by decide +kernel
theorem dX1_setScale_75 : decode cX1_setScale 75 = .ok (.iinc 3 1, 3) := by decide +kernel
theorem dX1_setScale_78 : decode cX1_setScale 78 = .ok (.iinc 4 1, 3) := by decide +kernel
theorem dX1_setScale_81 : decode cX1_setScale 81 = .ok (.goto (-44), 3) := by decide +kernel
theorem dX1_setScale_84 : decode cX1_setScale 84 = .ok (.iload_n 3, 1) := by decide +kernel
theorem dX1_setScale_85 : decode cX1_setScale 85 = .ok (.ireturn, 1) := by decide +kernel
set_option maxRecDepth 20000 in
theorem ggX1_setNudging_X1_in : GoodIn wsX1_setNudging wsX1_in := goodIn_r _ [7] (by decide +kernel) (by decide +kernel)
set_option maxRecDepth 20000 in
theorem gX1_setNudging_X1_in : GoodIn wsX1_setNudging (va_wsS RX1 44 yX1_in wsX1_in) := goodIn_app (goodIn_of _ (by decide +kernel)) ggX1_setNudging_X1_in
set_option maxRecDepth 20000 in
theorem ggX1_setNudging_X1_holds : GoodIn wsX1_setNudging wsX1_holds := goodIn_r _ [11, 12, 13, 14, 15, 16, 17, 18, 19, 20, 21, 22, 23, 24, 25] (by decide +kernel) (by decide +kernel)
set_option maxRecDepth 20000 in
theorem gX1_setNudging_X1_holds : GoodIn wsX1_setNudging (wsV RX1 79 RX1 yX1_holds wsX1_holds) := goodIn_app (goodIn_of _ (by decide +kernel)) ggX1_setNudging_X1_holds
theorem dX1_setNudging_0 : decode cX1_setNudging 0 = .ok (.aload_n 0, 1) := by decide +kernel
theorem dX1_setNudging_1 : decode cX1_setNudging 1 = .ok (.iload_n 1, 1) := by decide +kernel
theorem dX1_setNudging_2 : decode cX1_setNudging 2 = .ok (.iconst 0, 1) := by decide +kernel
theorem dX1_setNudging_3 : decode cX1_setNudging 3 = .ok (.bipush 100, 2) := by decide +kernel
theorem dX1_setNudging_5 : decode cX1_setNudging 5 = .ok (.invokestatic 44, 3) := by decide +kernel
theorem dX1_setNudging_8 : decode cX1_setNudging 8 = .ok (.ifCond .eq 29, 3) := by decide +kernel
theorem dX1_setNudging_11 : decode cX1_setNudging 11 = .ok (.iload_n 2, 1) := by decide +kernel
theorem dX1_setNudging_12 : decode cX1_setNudging 12 = .ok (.iconst 0, 1) := by decide +kernel
theorem dX1_setNudging_13 : decode cX1_setNudging 13 = .ok (.sipush 600, 3) := by decide +kernel
theorem dX1_setNudging_16 : decode cX1_setNudging 16 = .ok (.invokestatic 44, 3) := by decide +kernel
theorem dX1_setNudging_19 : decode cX1_setNudging 19 = .ok (.ifCond .eq 18, 3) := by decide +kernel
theorem dX1_setNudging_22 : decode cX1_setNudging 22 = .ok (.iload_n 3, 1) := by decide +kernel
theorem dX1_setNudging_23 : decode cX1_setNudging 23 = .ok (.iconst 0, 1) := by decide +kernel
theorem dX1_setNudging_24 : decode cX1_setNudging 24 = .ok (.sipush 12000, 3) := by decide +kernel
theorem dX1_setNudging_27 : decode cX1_setNudging 27 = .ok (.invokestatic 44, 3) := by decide +kernel
theorem dX1_setNudging_30 : decode cX1_setNudging 30 = .ok (.ifCond .eq 7, 3) := by decide +kernel
theorem dX1_setNudging_33 : decode cX1_setNudging 33 = .ok (.iconst 0, 1) := by decide +kernel
theorem dX1_setNudging_34 : decode cX1_setNudging 34 = .ok (.goto 4, 3) := by decide +kernel
theorem dX1_setNudging_37 : decode cX1_setNudging 37 = .ok (.iconst 1, 1) := by decide +kernel
theorem dX1_setNudging_38 : decode cX1_setNudging 38 = .ok (.invokevirtual 79, 3) := by decide +kernel
theorem dX1_setNudging_41 : decode cX1_setNudging 41 = .ok (.ifCond .eq 18, 3) := by decide +kernel
theorem dX1_setNudging_44 : decode cX1_setNudging 44 = .ok (.aload_n 0, 1) := by decide +kernel
theorem dX1_setNudging_45 : decode cX1_setNudging 45 = .ok (.iload_n 1, 1) := by decide +kernel
theorem dX1_setNudging_46 : decode cX1_setNudging 46 = .ok (.putfield 7, 3) := by decide +kernel
theorem dX1_setNudging_49 : decode cX1_setNudging 49 = .ok (.aload_n 0, 1) := by decide +kernel
theorem dX1_setNudging_50 : decode cX1_setNudging 50 = .ok (.iload_n 2, 1) := by decide +kernel
theorem dX1_setNudging_51 : decode cX1_setNudging 51 = .ok (.putfield 13, 3) := by decide +kernel
theorem dX1_setNudging_54 : decode cX1_setNudging 54 = .ok (.aload_n 0, 1) := by decide +kernel
theorem dX1_setNudging_55 : decode cX1_setNudging 55 = .ok (.iload_n 3, 1) := by decide +kernel
theorem dX1_setNudging_56 : decode cX1_setNudging 56 = .ok (.putfield 16, 3) := by decide +kernel
theorem dX1_setNudging_59 : decode cX1_setNudging 59 = .ok (.return_, 1) := by decide +kernel
theorem dX1_size_0 : decode cX1_size 0 = .ok (.iload_n 0, 1) := by decide +kernel
theorem dX1_size_1 : decode cX1_size 1 = .ok (.ifCond .ge 8, 3) := by decide +kernel
theorem dX1_size_4 : decode cX1_size 4 = .ok (.iload_n 0, 1) := by decide +kernel
theorem dX1_size_5 : decode cX1_size 5 = .ok (.ineg, 1) := by decide +kernel
theorem dX1_size_6 : decode cX1_size 6 = .ok (.goto 4, 3) := by decide +kernel
theorem dX1_size_9 : decode cX1_size 9 = .ok (.iload_n 0, 1) := by decide +kernel
theorem dX1_size_10 : decode cX1_size 10 = .ok (.ireturn, 1) := by decide +kernel
set_option maxRecDepth 20000 in
theorem ggX1_moves_X1_size : GoodIn wsX1_moves wsX1_size := goodIn_r _ [9] (by decide +kernel) (by decide +kernel)
set_option maxRecDepth 20000 in
theorem gX1_moves_X1_size : GoodIn wsX1_moves (va_wsS RX1 82 yX1_size wsX1_size) := goodIn_app (goodIn_of _ (by decide +kernel)) ggX1_moves_X1_size
set_option maxRecDepth 20000 in
theorem ggX1_moves_X1_near : GoodIn wsX1_moves wsX1_near := goodIn_r _ [13, 14, 15, 16, 8, 17, 18, 19, 20, 21, 22, 23, 24, 25, 26, 27, 28, 29, 30, 31, 32, 33, 34, 35, 36, 37, 38, 39, 40, 41, 42, 43, 44, 45, 46, 47, 48, 49, 50] (by decide +kernel) (by decide +kernel)
set_option maxRecDepth 20000 in
theorem gX1_moves_X1_near : GoodIn wsX1_moves (wsV RX1 85 RX1 yX1_near wsX1_near) := goodIn_app (goodIn_of _ (by decide +kernel)) ggX1_moves_X1_near
theorem dX1_moves_0 : decode cX1_moves 0 = .ok (.aload_n 0, 1) := by decide +kernel
theorem dX1_moves_1 : decode cX1_moves 1 = .ok (.getfield 19, 3) := by decide +kernel
theorem dX1_moves_4 : decode cX1_moves 4 = .ok (.iload_n 1, 1) := by decide +kernel
theorem dX1_moves_5 : decode cX1_moves 5 = .ok (.iaload, 1) := by decide +kernel
theorem dX1_moves_6 : decode cX1_moves 6 = .ok (.istore_n 3, 1) := by decide +kernel
theorem dX1_moves_7 : decode cX1_moves 7 = .ok (.iload_n 3, 1) := by decide +kernel
theorem dX1_moves_8 : decode cX1_moves 8 = .ok (.ifCond .lt 20, 3) := by decide +kernel
theorem dX1_moves_11 : decode cX1_moves 11 = .ok (.iload_n 2, 1) := by decide +kernel
theorem dX1_moves_12 : decode cX1_moves 12 = .ok (.iload_n 3, 1) := by decide +kernel
theorem dX1_moves_13 : decode cX1_moves 13 = .ok (.isub, 1) := by decide +kernel
theorem dX1_moves_14 : decode cX1_moves 14 = .ok (.invokestatic 82, 3) := by decide +kernel
theorem dX1_moves_17 : decode cX1_moves 17 = .ok (.aload_n 0, 1) := by decide +kernel
theorem dX1_moves_18 : decode cX1_moves 18 = .ok (.getfield 13, 3) := by decide +kernel
theorem dX1_moves_21 : decode cX1_moves 21 = .ok (.if_icmp .gt 7, 3) := by decide +kernel
theorem dX1_moves_24 : decode cX1_moves 24 = .ok (.iconst 1, 1) := by decide +kernel
theorem dX1_moves_25 : decode cX1_moves 25 = .ok (.goto 4, 3) := by decide +kernel
theorem dX1_moves_28 : decode cX1_moves 28 = .ok (.iconst 0, 1) := by decide +kernel
theorem dX1_moves_29 : decode cX1_moves 29 = .ok (.istore 4, 2) := by decide +kernel
theorem dX1_moves_31 : decode cX1_moves 31 = .ok (.iload 4, 2) := by decide +kernel
theorem dX1_moves_33 : decode cX1_moves 33 = .ok (.ifCond .eq 7, 3) := by decide +kernel
theorem dX1_moves_36 : decode cX1_moves 36 = .ok (.iload_n 3, 1) := by decide +kernel
theorem dX1_moves_37 : decode cX1_moves 37 = .ok (.goto 8, 3) := by decide +kernel
theorem dX1_moves_40 : decode cX1_moves 40 = .ok (.aload_n 0, 1) := by decide +kernel
theorem dX1_moves_41 : decode cX1_moves 41 = .ok (.iload_n 2, 1) := by decide +kernel
theorem dX1_moves_42 : decode cX1_moves 42 = .ok (.invokevirtual 85, 3) := by decide +kernel
theorem dX1_moves_45 : decode cX1_moves 45 = .ok (.istore 5, 2) := by decide +kernel
theorem dX1_moves_47 : decode cX1_moves 47 = .ok (.iload_n 3, 1) := by decide +kernel
theorem dX1_moves_48 : decode cX1_moves 48 = .ok (.ifCond .lt 13, 3) := by decide +kernel
theorem dX1_moves_51 : decode cX1_moves 51 = .ok (.iload 5, 2) := by decide +kernel
theorem dX1_moves_53 : decode cX1_moves 53 = .ok (.iload_n 3, 1) := by decide +kernel
theorem dX1_moves_54 : decode cX1_moves 54 = .ok (.if_icmp .eq 7, 3) := by decide +kernel
theorem dX1_moves_57 : decode cX1_moves 57 = .ok (.iconst 1, 1) := by decide +kernel
theorem dX1_moves_58 : decode cX1_moves 58 = .ok (.goto 4, 3) := by decide +kernel
theorem dX1_moves_61 : decode cX1_moves 61 = .ok (.iconst 0, 1) := by decide +kernel
theorem dX1_moves_62 : decode cX1_moves 62 = .ok (.istore 6, 2) := by decide +kernel
theorem dX1_moves_64 : decode cX1_moves 64 = .ok (.iload 6, 2) := by decide +kernel
theorem dX1_moves_66 : decode cX1_moves 66 = .ok (.ifCond .eq 21, 3) := by decide +kernel
theorem dX1_moves_69 : decode cX1_moves 69 = .ok (.iload 5, 2) := by decide +kernel
theorem dX1_moves_71 : decode cX1_moves 71 = .ok (.iload_n 3, 1) := by decide +kernel
theorem dX1_moves_72 : decode cX1_moves 72 = .ok (.isub, 1) := by decide +kernel
theorem dX1_moves_73 : decode cX1_moves 73 = .ok (.invokestatic 82, 3) := by decide +kernel
theorem dX1_moves_76 : decode cX1_moves 76 = .ok (.aload_n 0, 1) := by decide +kernel
theorem dX1_moves_77 : decode cX1_moves 77 = .ok (.getfield 16, 3) := by decide +kernel
theorem dX1_moves_80 : decode cX1_moves 80 = .ok (.if_icmp .le 7, 3) := by decide +kernel
theorem dX1_moves_83 : decode cX1_moves 83 = .ok (.iconst 1, 1) := by decide +kernel
theorem dX1_moves_84 : decode cX1_moves 84 = .ok (.goto 4, 3) := by decide +kernel
theorem dX1_moves_87 : decode cX1_moves 87 = .ok (.iconst 0, 1) := by decide +kernel
theorem dX1_moves_88 : decode cX1_moves 88 = .ok (.istore 7, 2) := by decide +kernel
theorem dX1_moves_90 : decode cX1_moves 90 = .ok (.iload 5, 2) := by decide +kernel
theorem dX1_moves_92 : decode cX1_moves 92 = .ok (.iload_n 2, 1) := by decide +kernel
theorem dX1_moves_93 : decode cX1_moves 93 = .ok (.isub, 1) := by decide +kernel
theorem dX1_moves_94 : decode cX1_moves 94 = .ok (.aload_n 0, 1) := by decide +kernel
theorem dX1_moves_95 : decode cX1_moves 95 = .ok (.getfield 23, 3) := by decide +kernel
theorem dX1_moves_98 : decode cX1_moves 98 = .ok (.iload_n 1, 1) := by decide +kernel
theorem dX1_moves_99 : decode cX1_moves 99 = .ok (.iaload, 1) := by decide +kernel
theorem dX1_moves_100 : decode cX1_moves 100 = .ok (.isub, 1) := by decide +kernel
theorem dX1_moves_101 : decode cX1_moves 101 = .ok (.istore 8, 2) := by decide +kernel
theorem dX1_moves_103 : decode cX1_moves 103 = .ok (.iload 8, 2) := by decide +kernel
theorem dX1_moves_105 : decode cX1_moves 105 = .ok (.aload_n 0, 1) := by decide +kernel
theorem dX1_moves_106 : decode cX1_moves 106 = .ok (.getfield 7, 3) := by decide +kernel
theorem dX1_moves_109 : decode cX1_moves 109 = .ok (.imul, 1) := by decide +kernel
theorem dX1_moves_110 : decode cX1_moves 110 = .ok (.bipush 100, 2) := by decide +kernel
theorem dX1_moves_112 : decode cX1_moves 112 = .ok (.idiv, 1) := by decide +kernel
theorem dX1_moves_113 : decode cX1_moves 113 = .ok (.istore 9, 2) := by decide +kernel
theorem dX1_moves_115 : decode cX1_moves 115 = .ok (.iload 9, 2) := by decide +kernel
theorem dX1_moves_117 : decode cX1_moves 117 = .ok (.ifCond .ne 28, 3) := by decide +kernel
theorem dX1_moves_120 : decode cX1_moves 120 = .ok (.iload 8, 2) := by decide +kernel
theorem dX1_moves_122 : decode cX1_moves 122 = .ok (.ifCond .eq 23, 3) := by decide +kernel
theorem dX1_moves_125 : decode cX1_moves 125 = .ok (.aload_n 0, 1) := by decide +kernel
theorem dX1_moves_126 : decode cX1_moves 126 = .ok (.getfield 7, 3) := by decide +kernel
theorem dX1_moves_129 : decode cX1_moves 129 = .ok (.ifCond .le 16, 3) := by decide +kernel
theorem dX1_moves_132 : decode cX1_moves 132 = .ok (.iload 8, 2) := by decide +kernel
theorem dX1_moves_134 : decode cX1_moves 134 = .ok (.ifCond .le 7, 3) := by decide +kernel
theorem dX1_moves_137 : decode cX1_moves 137 = .ok (.iconst 1, 1) := by decide +kernel
theorem dX1_moves_138 : decode cX1_moves 138 = .ok (.goto 9, 3) := by decide +kernel
theorem dX1_moves_141 : decode cX1_moves 141 = .ok (.iconst (-1), 1) := by decide +kernel
theorem dX1_moves_142 : decode cX1_moves 142 = .ok (.goto 5, 3) := by decide +kernel
theorem dX1_moves_145 : decode cX1_moves 145 = .ok (.iload 9, 2) := by decide +kernel
theorem dX1_moves_147 : decode cX1_moves 147 = .ok (.istore 9, 2) := by decide +kernel
theorem dX1_moves_149 : decode cX1_moves 149 = .ok (.aload_n 0, 1) := by decide +kernel
theorem dX1_moves_150 : decode cX1_moves 150 = .ok (.getfield 19, 3) := by decide +kernel
theorem dX1_moves_153 : decode cX1_moves 153 = .ok (.iload_n 1, 1) := by decide +kernel
theorem dX1_moves_154 : decode cX1_moves 154 = .ok (.iload 5, 2) := by decide +kernel
theorem dX1_moves_156 : decode cX1_moves 156 = .ok (.iastore, 1) := by decide +kernel
theorem dX1_moves_157 : decode cX1_moves 157 = .ok (.aload_n 0, 1) := by decide +kernel
theorem dX1_moves_158 : decode cX1_moves 158 = .ok (.getfield 23, 3) := by decide +kernel
theorem dX1_moves_161 : decode cX1_moves 161 = .ok (.iload_n 1, 1) := by decide +kernel
theorem dX1_moves_162 : decode cX1_moves 162 = .ok (.iload 7, 2) := by decide +kernel
theorem dX1_moves_164 : decode cX1_moves 164 = .ok (.ifCond .eq 7, 3) := by decide +kernel
theorem dX1_moves_167 : decode cX1_moves 167 = .ok (.iconst 0, 1) := by decide +kernel
theorem dX1_moves_168 : decode cX1_moves 168 = .ok (.goto 12, 3) := by decide +kernel
theorem dX1_moves_171 : decode cX1_moves 171 = .ok (.aload_n 0, 1) := by decide +kernel
theorem dX1_moves_172 : decode cX1_moves 172 = .ok (.getfield 23, 3) := by decide +kernel
theorem dX1_moves_175 : decode cX1_moves 175 = .ok (.iload_n 1, 1) := by decide +kernel
theorem dX1_moves_176 : decode cX1_moves 176 = .ok (.iaload, 1) := by decide +kernel
theorem dX1_moves_177 : decode cX1_moves 177 = .ok (.iload 9, 2) := by decide +kernel
theorem dX1_moves_179 : decode cX1_moves 179 = .ok (.iadd, 1) := by decide +kernel
theorem dX1_moves_180 : decode cX1_moves 180 = .ok (.iastore, 1) := by decide +kernel
theorem dX1_moves_181 : decode cX1_moves 181 = .ok (.iload 7, 2) := by decide +kernel
theorem dX1_moves_183 : decode cX1_moves 183 = .ok (.ifCond .eq 7, 3) := by decide +kernel
theorem dX1_moves_186 : decode cX1_moves 186 = .ok (.iconst 2, 1) := by decide +kernel
theorem dX1_moves_187 : decode cX1_moves 187 = .ok (.goto 13, 3) := by decide +kernel
theorem dX1_moves_190 : decode cX1_moves 190 = .ok (.iload 6, 2) := by decide +kernel
theorem dX1_moves_192 : decode cX1_moves 192 = .ok (.ifCond .eq 7, 3) := by decide +kernel
theorem dX1_moves_195 : decode cX1_moves 195 = .ok (.iconst 1, 1) := by decide +kernel
theorem dX1_moves_196 : decode cX1_moves 196 = .ok (.goto 4, 3) := by decide +kernel
theorem dX1_moves_199 : decode cX1_moves 199 = .ok (.iconst 0, 1) := by decide +kernel
theorem dX1_moves_200 : decode cX1_moves 200 = .ok (.ireturn, 1) := by decide +kernel
set_option maxRecDepth 20000 in
theorem ggX1_sings_X1_moves : GoodIn wsX1_sings wsX1_moves := goodIn_r _ [11, 12, 13, 14, 1, 15, 16, 17, 10, 18, 19, 20, 21, 22, 23, 24, 25, 26, 27, 28, 29, 30, 31, 32, 33, 34, 35, 36, 37, 38, 39, 40, 41, 42, 43, 44, 45, 46, 47, 48, 49, 50, 51, 52, 53, 54, 55, 56, 57, 58, 59] (by decide +kernel) (by decide +kernel)
set_option maxRecDepth 20000 in
theorem gX1_sings_X1_moves : GoodIn wsX1_sings (wsV RX1 88 RX1 yX1_moves wsX1_moves) := goodIn_app (goodIn_of _ (by decide +kernel)) ggX1_sings_X1_moves
set_option maxRecDepth 20000 in
theorem ggX1_sings_X1_step : GoodIn wsX1_sings wsX1_step := goodIn_r _ [26, 27, 28, 29, 30, 10, 31, 32, 33, 34, 35, 36, 37, 38, 39, 40, 41, 42, 43, 44, 45, 46, 47, 48, 49, 50, 51, 52, 53, 54, 55, 56, 57, 58, 59] (by decide +kernel) (by decide +kernel)
set_option maxRecDepth 20000 in
theorem gX1_sings_X1_step : GoodIn wsX1_sings (wsV RX1 72 RX1 yX1_step wsX1_step) := goodIn_app (goodIn_of _ (by decide +kernel)) ggX1_sings_X1_step
theorem dX1_sings_0 : decode cX1_sings 0 = .ok (.aload_n 0, 1) := by decide +kernel
theorem dX1_sings_1 : decode cX1_sings 1 = .ok (.iload_n 1, 1) := by decide +kernel
theorem dX1_sings_2 : decode cX1_sings 2 = .ok (.iload_n 2, 1) := by decide +kernel
theorem dX1_sings_3 : decode cX1_sings 3 = .ok (.invokevirtual 88, 3) := by decide +kernel
theorem dX1_sings_6 : decode cX1_sings 6 = .ok (.istore_n 3, 1) := by decide +kernel
theorem dX1_sings_7 : decode cX1_sings 7 = .ok (.iload_n 2, 1) := by decide +kernel
theorem dX1_sings_8 : decode cX1_sings 8 = .ok (.aload_n 0, 1) := by decide +kernel
theorem dX1_sings_9 : decode cX1_sings 9 = .ok (.getfield 23, 3) := by decide +kernel
theorem dX1_sings_12 : decode cX1_sings 12 = .ok (.iload_n 1, 1) := by decide +kernel
theorem dX1_sings_13 : decode cX1_sings 13 = .ok (.iaload, 1) := by decide +kernel
theorem dX1_sings_14 : decode cX1_sings 14 = .ok (.iadd, 1) := by decide +kernel
theorem dX1_sings_15 : decode cX1_sings 15 = .ok (.istore 4, 2) := by decide +kernel
theorem dX1_sings_17 : decode cX1_sings 17 = .ok (.aload_n 0, 1) := by decide +kernel
theorem dX1_sings_18 : decode cX1_sings 18 = .ok (.getfield 26, 3) := by decide +kernel
theorem dX1_sings_21 : decode cX1_sings 21 = .ok (.iload_n 1, 1) := by decide +kernel
theorem dX1_sings_22 : decode cX1_sings 22 = .ok (.dup2, 1) := by decide +kernel
theorem dX1_sings_23 : decode cX1_sings 23 = .ok (.iaload, 1) := by decide +kernel
theorem dX1_sings_24 : decode cX1_sings 24 = .ok (.iconst 1, 1) := by decide +kernel
theorem dX1_sings_25 : decode cX1_sings 25 = .ok (.iadd, 1) := by decide +kernel
theorem dX1_sings_26 : decode cX1_sings 26 = .ok (.iastore, 1) := by decide +kernel
theorem dX1_sings_27 : decode cX1_sings 27 = .ok (.aload_n 0, 1) := by decide +kernel
theorem dX1_sings_28 : decode cX1_sings 28 = .ok (.getfield 29, 3) := by decide +kernel
theorem dX1_sings_31 : decode cX1_sings 31 = .ok (.iload_n 1, 1) := by decide +kernel
theorem dX1_sings_32 : decode cX1_sings 32 = .ok (.dup2, 1) := by decide +kernel
theorem dX1_sings_33 : decode cX1_sings 33 = .ok (.iaload, 1) := by decide +kernel
theorem dX1_sings_34 : decode cX1_sings 34 = .ok (.iload_n 3, 1) := by decide +kernel
theorem dX1_sings_35 : decode cX1_sings 35 = .ok (.ifCond .le 7, 3) := by decide +kernel
theorem dX1_sings_38 : decode cX1_sings 38 = .ok (.iconst 1, 1) := by decide +kernel
theorem dX1_sings_39 : decode cX1_sings 39 = .ok (.goto 4, 3) := by decide +kernel
theorem dX1_sings_42 : decode cX1_sings 42 = .ok (.iconst 0, 1) := by decide +kernel
theorem dX1_sings_43 : decode cX1_sings 43 = .ok (.iadd, 1) := by decide +kernel
theorem dX1_sings_44 : decode cX1_sings 44 = .ok (.iastore, 1) := by decide +kernel
theorem dX1_sings_45 : decode cX1_sings 45 = .ok (.aload_n 0, 1) := by decide +kernel
theorem dX1_sings_46 : decode cX1_sings 46 = .ok (.getfield 32, 3) := by decide +kernel
theorem dX1_sings_49 : decode cX1_sings 49 = .ok (.iload_n 1, 1) := by decide +kernel
theorem dX1_sings_50 : decode cX1_sings 50 = .ok (.dup2, 1) := by decide +kernel
theorem dX1_sings_51 : decode cX1_sings 51 = .ok (.iaload, 1) := by decide +kernel
theorem dX1_sings_52 : decode cX1_sings 52 = .ok (.iload_n 3, 1) := by decide +kernel
theorem dX1_sings_53 : decode cX1_sings 53 = .ok (.iconst 1, 1) := by decide +kernel
theorem dX1_sings_54 : decode cX1_sings 54 = .ok (.if_icmp .le 7, 3) := by decide +kernel
theorem dX1_sings_57 : decode cX1_sings 57 = .ok (.iconst 1, 1) := by decide +kernel
theorem dX1_sings_58 : decode cX1_sings 58 = .ok (.goto 4, 3) := by decide +kernel
theorem dX1_sings_61 : decode cX1_sings 61 = .ok (.iconst 0, 1) := by decide +kernel
theorem dX1_sings_62 : decode cX1_sings 62 = .ok (.iadd, 1) := by decide +kernel
theorem dX1_sings_63 : decode cX1_sings 63 = .ok (.iastore, 1) := by decide +kernel
theorem dX1_sings_64 : decode cX1_sings 64 = .ok (.aload_n 0, 1) := by decide +kernel
theorem dX1_sings_65 : decode cX1_sings 65 = .ok (.getfield 35, 3) := by decide +kernel
theorem dX1_sings_68 : decode cX1_sings 68 = .ok (.iload_n 1, 1) := by decide +kernel
theorem dX1_sings_69 : decode cX1_sings 69 = .ok (.dup2, 1) := by decide +kernel
theorem dX1_sings_70 : decode cX1_sings 70 = .ok (.iaload, 1) := by decide +kernel
theorem dX1_sings_71 : decode cX1_sings 71 = .ok (.aload_n 0, 1) := by decide +kernel
theorem dX1_sings_72 : decode cX1_sings 72 = .ok (.iload 4, 2) := by decide +kernel
theorem dX1_sings_74 : decode cX1_sings 74 = .ok (.invokevirtual 72, 3) := by decide +kernel
theorem dX1_sings_77 : decode cX1_sings 77 = .ok (.ifCond .lt 7, 3) := by decide +kernel
theorem dX1_sings_80 : decode cX1_sings 80 = .ok (.iconst 1, 1) := by decide +kernel
theorem dX1_sings_81 : decode cX1_sings 81 = .ok (.goto 4, 3) := by decide +kernel
theorem dX1_sings_84 : decode cX1_sings 84 = .ok (.iconst 0, 1) := by decide +kernel
theorem dX1_sings_85 : decode cX1_sings 85 = .ok (.iadd, 1) := by decide +kernel
theorem dX1_sings_86 : decode cX1_sings 86 = .ok (.iastore, 1) := by decide +kernel
theorem dX1_sings_87 : decode cX1_sings 87 = .ok (.aload_n 0, 1) := by decide +kernel
theorem dX1_sings_88 : decode cX1_sings 88 = .ok (.getfield 38, 3) := by decide +kernel
theorem dX1_sings_91 : decode cX1_sings 91 = .ok (.iload_n 2, 1) := by decide +kernel
theorem dX1_sings_92 : decode cX1_sings 92 = .ok (.bipush 50, 2) := by decide +kernel
theorem dX1_sings_94 : decode cX1_sings 94 = .ok (.iadd, 1) := by decide +kernel
theorem dX1_sings_95 : decode cX1_sings 95 = .ok (.bipush 100, 2) := by decide +kernel
theorem dX1_sings_97 : decode cX1_sings 97 = .ok (.idiv, 1) := by decide +kernel
theorem dX1_sings_98 : decode cX1_sings 98 = .ok (.bipush 12, 2) := by decide +kernel
theorem dX1_sings_100 : decode cX1_sings 100 = .ok (.irem, 1) := by decide +kernel
theorem dX1_sings_101 : decode cX1_sings 101 = .ok (.dup2, 1) := by decide +kernel
theorem dX1_sings_102 : decode cX1_sings 102 = .ok (.iaload, 1) := by decide +kernel
theorem dX1_sings_103 : decode cX1_sings 103 = .ok (.iconst 1, 1) := by decide +kernel
theorem dX1_sings_104 : decode cX1_sings 104 = .ok (.iadd, 1) := by decide +kernel
theorem dX1_sings_105 : decode cX1_sings 105 = .ok (.iastore, 1) := by decide +kernel
theorem dX1_sings_106 : decode cX1_sings 106 = .ok (.iload 4, 2) := by decide +kernel
theorem dX1_sings_108 : decode cX1_sings 108 = .ok (.ireturn, 1) := by decide +kernel
set_option maxRecDepth 20000 in
theorem ggX1_sing_X1_isWren : GoodIn wsX1_sing wsX1_isWren := goodIn_r _ [4, 5, 6, 3, 7] (by decide +kernel) (by decide +kernel)
set_option maxRecDepth 20000 in
theorem gX1_sing_X1_isWren : GoodIn wsX1_sing (va_wsS RX1 91 yX1_isWren wsX1_isWren) := goodIn_app (goodIn_of _ (by decide +kernel)) ggX1_sing_X1_isWren
set_option maxRecDepth 20000 in
theorem ggX1_sing_X1_isPitch : GoodIn wsX1_sing wsX1_isPitch := goodIn_r _ [10, 5, 6, 3, 7] (by decide +kernel) (by decide +kernel)
set_option maxRecDepth 20000 in
theorem gX1_sing_X1_isPitch : GoodIn wsX1_sing (va_wsS RX1 59 yX1_isPitch wsX1_isPitch) := goodIn_app (goodIn_of _ (by decide +kernel)) ggX1_sing_X1_isPitch
set_option maxRecDepth 20000 in
theorem ggX1_sing_X1_holds : GoodIn wsX1_sing wsX1_holds := goodIn_r _ [14, 15, 59, 60, 61, 62, 63, 64, 65, 66, 67, 68, 69, 70, 71] (by decide +kernel) (by decide +kernel)
set_option maxRecDepth 20000 in
theorem gX1_sing_X1_holds : GoodIn wsX1_sing (wsV RX1 79 RX1 yX1_holds wsX1_holds) := goodIn_app (goodIn_of _ (by decide +kernel)) ggX1_sing_X1_holds
set_option maxRecDepth 20000 in
theorem ggX1_sing_X1_sings : GoodIn wsX1_sing wsX1_sings := goodIn_r _ [19, 20, 21, 22, 23, 24, 25, 26, 27, 28, 3, 29, 30, 31, 32, 33, 34, 35, 36, 37, 38, 39, 40, 41, 42, 43, 44, 45, 46, 8, 9, 10, 5, 6, 7, 47, 48, 49, 50, 51, 52, 53, 54, 55, 56, 57, 58, 59, 60, 61, 62, 63, 64, 65, 66, 67, 68, 69, 70, 71] (by decide +kernel) (by decide +kernel)
set_option maxRecDepth 20000 in
theorem gX1_sing_X1_sings : GoodIn wsX1_sing (wsV RX1 94 RX1 yX1_sings wsX1_sings) := goodIn_app (goodIn_of _ (by decide +kernel)) ggX1_sing_X1_sings
theorem dX1_sing_0 : decode cX1_sing 0 = .ok (.aload_n 0, 1) := by decide +kernel
theorem dX1_sing_1 : decode cX1_sing 1 = .ok (.iload_n 1, 1) := by decide +kernel
theorem dX1_sing_2 : decode cX1_sing 2 = .ok (.invokestatic 91, 3) := by decide +kernel
theorem dX1_sing_5 : decode cX1_sing 5 = .ok (.ifCond .ne 7, 3) := by decide +kernel
theorem dX1_sing_8 : decode cX1_sing 8 = .ok (.iconst 1, 1) := by decide +kernel
theorem dX1_sing_9 : decode cX1_sing 9 = .ok (.goto 15, 3) := by decide +kernel
theorem dX1_sing_12 : decode cX1_sing 12 = .ok (.iload_n 2, 1) := by decide +kernel
theorem dX1_sing_13 : decode cX1_sing 13 = .ok (.invokestatic 59, 3) := by decide +kernel
theorem dX1_sing_16 : decode cX1_sing 16 = .ok (.ifCond .eq 7, 3) := by decide +kernel
theorem dX1_sing_19 : decode cX1_sing 19 = .ok (.iconst 0, 1) := by decide +kernel
theorem dX1_sing_20 : decode cX1_sing 20 = .ok (.goto 4, 3) := by decide +kernel
theorem dX1_sing_23 : decode cX1_sing 23 = .ok (.iconst 2, 1) := by decide +kernel
theorem dX1_sing_24 : decode cX1_sing 24 = .ok (.invokevirtual 79, 3) := by decide +kernel
theorem dX1_sing_27 : decode cX1_sing 27 = .ok (.ifCond .eq 12, 3) := by decide +kernel
theorem dX1_sing_30 : decode cX1_sing 30 = .ok (.aload_n 0, 1) := by decide +kernel
theorem dX1_sing_31 : decode cX1_sing 31 = .ok (.iload_n 1, 1) := by decide +kernel
theorem dX1_sing_32 : decode cX1_sing 32 = .ok (.iload_n 2, 1) := by decide +kernel
theorem dX1_sing_33 : decode cX1_sing 33 = .ok (.invokevirtual 94, 3) := by decide +kernel
theorem dX1_sing_36 : decode cX1_sing 36 = .ok (.goto 4, 3) := by decide +kernel
theorem dX1_sing_39 : decode cX1_sing 39 = .ok (.iconst 0, 1) := by decide +kernel
theorem dX1_sing_40 : decode cX1_sing 40 = .ok (.ireturn, 1) := by decide +kernel
set_option maxRecDepth 20000 in
theorem ggX1_slide_X1_isWren : GoodIn wsX1_slide wsX1_isWren := goodIn_r _ [5, 6, 7, 4, 8] (by decide +kernel) (by decide +kernel)
set_option maxRecDepth 20000 in
theorem gX1_slide_X1_isWren : GoodIn wsX1_slide (va_wsS RX1 91 yX1_isWren wsX1_isWren) := goodIn_app (goodIn_of _ (by decide +kernel)) ggX1_slide_X1_isWren
set_option maxRecDepth 20000 in
theorem ggX1_slide_X1_isPitch : GoodIn wsX1_slide wsX1_isPitch := goodIn_r _ [11, 6, 7, 4, 8] (by decide +kernel) (by decide +kernel)
set_option maxRecDepth 20000 in
theorem gX1_slide_X1_isPitch : GoodIn wsX1_slide (va_wsS RX1 59 yX1_isPitch wsX1_isPitch) := goodIn_app (goodIn_of _ (by decide +kernel)) ggX1_slide_X1_isPitch
set_option maxRecDepth 20000 in
theorem ggX1_slide_X1_in : GoodIn wsX1_slide wsX1_in := goodIn_r _ [8] (by decide +kernel) (by decide +kernel)
set_option maxRecDepth 20000 in
theorem gX1_slide_X1_in : GoodIn wsX1_slide (va_wsS RX1 44 yX1_in wsX1_in) := goodIn_app (goodIn_of _ (by decide +kernel)) ggX1_slide_X1_in
set_option maxRecDepth 20000 in
theorem ggX1_slide_X1_holds : GoodIn wsX1_slide wsX1_holds := goodIn_r _ [15, 16, 59, 60, 61, 62, 63, 64, 65, 66, 67, 68, 69, 70, 71] (by decide +kernel) (by decide +kernel)
set_option maxRecDepth 20000 in
theorem gX1_slide_X1_holds : GoodIn wsX1_slide (wsV RX1 79 RX1 yX1_holds wsX1_holds) := goodIn_app (goodIn_of _ (by decide +kernel)) ggX1_slide_X1_holds
set_option maxRecDepth 20000 in
theorem ggX1_slide_X1_sings : GoodIn wsX1_slide wsX1_sings := goodIn_r _ [20, 21, 22, 1, 23, 24, 25, 26, 27, 28, 4, 29, 30, 31, 32, 33, 34, 35, 36, 37, 38, 39, 40, 41, 42, 43, 44, 45, 46, 9, 10, 11, 6, 7, 8, 47, 48, 49, 50, 51, 52, 53, 54, 55, 56, 57, 58, 59, 60, 61, 62, 63, 64, 65, 66, 67, 68, 69, 70, 71] (by decide +kernel) (by decide +kernel)
set_option maxRecDepth 20000 in
theorem gX1_slide_X1_sings : GoodIn wsX1_slide (wsV RX1 94 RX1 yX1_sings wsX1_sings) := goodIn_app (goodIn_of _ (by decide +kernel)) ggX1_slide_X1_sings
theorem dX1_slide_0 : decode cX1_slide 0 = .ok (.aload_n 0, 1) := by decide +kernel
theorem dX1_slide_1 : decode cX1_slide 1 = .ok (.iload_n 1, 1) := by decide +kernel
theorem dX1_slide_2 : decode cX1_slide 2 = .ok (.invokestatic 91, 3) := by decide +kernel
theorem dX1_slide_5 : decode cX1_slide 5 = .ok (.ifCond .ne 7, 3) := by decide +kernel
theorem dX1_slide_8 : decode cX1_slide 8 = .ok (.iconst 1, 1) := by decide +kernel
theorem dX1_slide_9 : decode cX1_slide 9 = .ok (.goto 33, 3) := by decide +kernel
theorem dX1_slide_12 : decode cX1_slide 12 = .ok (.iload_n 2, 1) := by decide +kernel
theorem dX1_slide_13 : decode cX1_slide 13 = .ok (.invokestatic 59, 3) := by decide +kernel
theorem dX1_slide_16 : decode cX1_slide 16 = .ok (.ifCond .eq 25, 3) := by decide +kernel
theorem dX1_slide_19 : decode cX1_slide 19 = .ok (.iload_n 3, 1) := by decide +kernel
theorem dX1_slide_20 : decode cX1_slide 20 = .ok (.invokestatic 59, 3) := by decide +kernel
theorem dX1_slide_23 : decode cX1_slide 23 = .ok (.ifCond .eq 18, 3) := by decide +kernel
theorem dX1_slide_26 : decode cX1_slide 26 = .ok (.iload 4, 2) := by decide +kernel
theorem dX1_slide_28 : decode cX1_slide 28 = .ok (.iconst 2, 1) := by decide +kernel
theorem dX1_slide_29 : decode cX1_slide 29 = .ok (.bipush 50, 2) := by decide +kernel
theorem dX1_slide_31 : decode cX1_slide 31 = .ok (.invokestatic 44, 3) := by decide +kernel
theorem dX1_slide_34 : decode cX1_slide 34 = .ok (.ifCond .eq 7, 3) := by decide +kernel
theorem dX1_slide_37 : decode cX1_slide 37 = .ok (.iconst 0, 1) := by decide +kernel
theorem dX1_slide_38 : decode cX1_slide 38 = .ok (.goto 4, 3) := by decide +kernel
theorem dX1_slide_41 : decode cX1_slide 41 = .ok (.iconst 2, 1) := by decide +kernel
theorem dX1_slide_42 : decode cX1_slide 42 = .ok (.invokevirtual 79, 3) := by decide +kernel
theorem dX1_slide_45 : decode cX1_slide 45 = .ok (.ifCond .ne 5, 3) := by decide +kernel
theorem dX1_slide_48 : decode cX1_slide 48 = .ok (.iconst 0, 1) := by decide +kernel
theorem dX1_slide_49 : decode cX1_slide 49 = .ok (.ireturn, 1) := by decide +kernel
theorem dX1_slide_50 : decode cX1_slide 50 = .ok (.aload_n 0, 1) := by decide +kernel
theorem dX1_slide_51 : decode cX1_slide 51 = .ok (.getfield 29, 3) := by decide +kernel
theorem dX1_slide_54 : decode cX1_slide 54 = .ok (.iload_n 1, 1) := by decide +kernel
theorem dX1_slide_55 : decode cX1_slide 55 = .ok (.iaload, 1) := by decide +kernel
theorem dX1_slide_56 : decode cX1_slide 56 = .ok (.istore 5, 2) := by decide +kernel
theorem dX1_slide_58 : decode cX1_slide 58 = .ok (.iconst 0, 1) := by decide +kernel
theorem dX1_slide_59 : decode cX1_slide 59 = .ok (.istore 6, 2) := by decide +kernel
theorem dX1_slide_61 : decode cX1_slide 61 = .ok (.iload 6, 2) := by decide +kernel
theorem dX1_slide_63 : decode cX1_slide 63 = .ok (.iload 4, 2) := by decide +kernel
theorem dX1_slide_65 : decode cX1_slide 65 = .ok (.if_icmp .ge 35, 3) := by decide +kernel
theorem dX1_slide_68 : decode cX1_slide 68 = .ok (.aload_n 0, 1) := by decide +kernel
theorem dX1_slide_69 : decode cX1_slide 69 = .ok (.iload_n 1, 1) := by decide +kernel
theorem dX1_slide_70 : decode cX1_slide 70 = .ok (.iload_n 2, 1) := by decide +kernel
theorem dX1_slide_71 : decode cX1_slide 71 = .ok (.iload 4, 2) := by decide +kernel
theorem dX1_slide_73 : decode cX1_slide 73 = .ok (.iconst 1, 1) := by decide +kernel
theorem dX1_slide_74 : decode cX1_slide 74 = .ok (.isub, 1) := by decide +kernel
theorem dX1_slide_75 : decode cX1_slide 75 = .ok (.iload 6, 2) := by decide +kernel
theorem dX1_slide_77 : decode cX1_slide 77 = .ok (.isub, 1) := by decide +kernel
theorem dX1_slide_78 : decode cX1_slide 78 = .ok (.imul, 1) := by decide +kernel
theorem dX1_slide_79 : decode cX1_slide 79 = .ok (.iload_n 3, 1) := by decide +kernel
theorem dX1_slide_80 : decode cX1_slide 80 = .ok (.iload 6, 2) := by decide +kernel
theorem dX1_slide_82 : decode cX1_slide 82 = .ok (.imul, 1) := by decide +kernel
theorem dX1_slide_83 : decode cX1_slide 83 = .ok (.iadd, 1) := by decide +kernel
theorem dX1_slide_84 : decode cX1_slide 84 = .ok (.iload 4, 2) := by decide +kernel
theorem dX1_slide_86 : decode cX1_slide 86 = .ok (.iconst 1, 1) := by decide +kernel
theorem dX1_slide_87 : decode cX1_slide 87 = .ok (.isub, 1) := by decide +kernel
theorem dX1_slide_88 : decode cX1_slide 88 = .ok (.idiv, 1) := by decide +kernel
theorem dX1_slide_89 : decode cX1_slide 89 = .ok (.invokevirtual 94, 3) := by decide +kernel
theorem dX1_slide_92 : decode cX1_slide 92 = .ok (.istore 7, 2) := by decide +kernel
theorem dX1_slide_94 : decode cX1_slide 94 = .ok (.iinc 6 1, 3) := by decide +kernel
theorem dX1_slide_97 : decode cX1_slide 97 = .ok (.goto (-36), 3) := by decide +kernel
theorem dX1_slide_100 : decode cX1_slide 100 = .ok (.aload_n 0, 1) := by decide +kernel
theorem dX1_slide_101 : decode cX1_slide 101 = .ok (.getfield 29, 3) := by decide +kernel
theorem dX1_slide_104 : decode cX1_slide 104 = .ok (.iload_n 1, 1) := by decide +kernel
theorem dX1_slide_105 : decode cX1_slide 105 = .ok (.iaload, 1) := by decide +kernel
theorem dX1_slide_106 : decode cX1_slide 106 = .ok (.iload 5, 2) := by decide +kernel
theorem dX1_slide_108 : decode cX1_slide 108 = .ok (.isub, 1) := by decide +kernel
theorem dX1_slide_109 : decode cX1_slide 109 = .ok (.ireturn, 1) := by decide +kernel
set_option maxRecDepth 20000 in
theorem ggX1_rest_X1_isWren : GoodIn wsX1_rest wsX1_isWren := goodIn_r _ [6, 7, 8, 5, 9] (by decide +kernel) (by decide +kernel)
set_option maxRecDepth 20000 in
theorem gX1_rest_X1_isWren : GoodIn wsX1_rest (va_wsS RX1 91 yX1_isWren wsX1_isWren) := goodIn_app (goodIn_of _ (by decide +kernel)) ggX1_rest_X1_isWren
set_option maxRecDepth 20000 in
theorem ggX1_rest_X1_holds : GoodIn wsX1_rest wsX1_holds := goodIn_r _ [13, 14, 15, 16, 17, 18, 19, 20, 21, 22, 23, 24, 25, 26, 27] (by decide +kernel) (by decide +kernel)
set_option maxRecDepth 20000 in
theorem gX1_rest_X1_holds : GoodIn wsX1_rest (wsV RX1 79 RX1 yX1_holds wsX1_holds) := goodIn_app (goodIn_of _ (by decide +kernel)) ggX1_rest_X1_holds
theorem dX1_rest_0 : decode cX1_rest 0 = .ok (.aload_n 0, 1) := by decide +kernel
theorem dX1_rest_1 : decode cX1_rest 1 = .ok (.iload_n 1, 1) := by decide +kernel
theorem dX1_rest_2 : decode cX1_rest 2 = .ok (.invokestatic 91, 3) := by decide +kernel
theorem dX1_rest_5 : decode cX1_rest 5 = .ok (.ifCond .eq 7, 3) := by decide +kernel
theorem dX1_rest_8 : decode cX1_rest 8 = .ok (.iconst 0, 1) := by decide +kernel
theorem dX1_rest_9 : decode cX1_rest 9 = .ok (.goto 4, 3) := by decide +kernel
theorem dX1_rest_12 : decode cX1_rest 12 = .ok (.iconst 1, 1) := by decide +kernel
theorem dX1_rest_13 : decode cX1_rest 13 = .ok (.invokevirtual 79, 3) := by decide +kernel
theorem dX1_rest_16 : decode cX1_rest 16 = .ok (.ifCond .ne 5, 3) := by decide +kernel
theorem dX1_rest_19 : decode cX1_rest 19 = .ok (.iconst 0, 1) := by decide +kernel
theorem dX1_rest_20 : decode cX1_rest 20 = .ok (.ireturn, 1) := by decide +kernel
theorem dX1_rest_21 : decode cX1_rest 21 = .ok (.aload_n 0, 1) := by decide +kernel
theorem dX1_rest_22 : decode cX1_rest 22 = .ok (.getfield 19, 3) := by decide +kernel
theorem dX1_rest_25 : decode cX1_rest 25 = .ok (.iload_n 1, 1) := by decide +kernel
theorem dX1_rest_26 : decode cX1_rest 26 = .ok (.iaload, 1) := by decide +kernel
theorem dX1_rest_27 : decode cX1_rest 27 = .ok (.istore_n 2, 1) := by decide +kernel
theorem dX1_rest_28 : decode cX1_rest 28 = .ok (.aload_n 0, 1) := by decide +kernel
theorem dX1_rest_29 : decode cX1_rest 29 = .ok (.getfield 19, 3) := by decide +kernel
theorem dX1_rest_32 : decode cX1_rest 32 = .ok (.iload_n 1, 1) := by decide +kernel
theorem dX1_rest_33 : decode cX1_rest 33 = .ok (.iconst (-1), 1) := by decide +kernel
theorem dX1_rest_34 : decode cX1_rest 34 = .ok (.iastore, 1) := by decide +kernel
theorem dX1_rest_35 : decode cX1_rest 35 = .ok (.aload_n 0, 1) := by decide +kernel
theorem dX1_rest_36 : decode cX1_rest 36 = .ok (.getfield 23, 3) := by decide +kernel
theorem dX1_rest_39 : decode cX1_rest 39 = .ok (.iload_n 1, 1) := by decide +kernel
theorem dX1_rest_40 : decode cX1_rest 40 = .ok (.iconst 0, 1) := by decide +kernel
theorem dX1_rest_41 : decode cX1_rest 41 = .ok (.iastore, 1) := by decide +kernel
theorem dX1_rest_42 : decode cX1_rest 42 = .ok (.iload_n 2, 1) := by decide +kernel
theorem dX1_rest_43 : decode cX1_rest 43 = .ok (.ireturn, 1) := by decide +kernel
set_option maxRecDepth 20000 in
theorem ggX1_rungs_X1_step : GoodIn wsX1_rungs wsX1_step := goodIn_r _ [6, 7, 8, 9, 10, 5, 11, 12, 13, 14, 15, 16, 17, 18, 19, 20, 21, 22, 23, 24, 25, 26, 27, 28, 29, 30, 31, 32, 33, 34, 35, 36, 37, 38, 39] (by decide +kernel) (by decide +kernel)
set_option maxRecDepth 20000 in
theorem gX1_rungs_X1_step : GoodIn wsX1_rungs (wsV RX1 72 RX1 yX1_step wsX1_step) := goodIn_app (goodIn_of _ (by decide +kernel)) ggX1_rungs_X1_step
theorem dX1_rungs_0 : decode cX1_rungs 0 = .ok (.aload_n 0, 1) := by decide +kernel
theorem dX1_rungs_1 : decode cX1_rungs 1 = .ok (.iconst 0, 1) := by decide +kernel
theorem dX1_rungs_2 : decode cX1_rungs 2 = .ok (.putfield 41, 3) := by decide +kernel
theorem dX1_rungs_5 : decode cX1_rungs 5 = .ok (.iconst 0, 1) := by decide +kernel
theorem dX1_rungs_6 : decode cX1_rungs 6 = .ok (.istore_n 1, 1) := by decide +kernel
theorem dX1_rungs_7 : decode cX1_rungs 7 = .ok (.iconst 0, 1) := by decide +kernel
theorem dX1_rungs_8 : decode cX1_rungs 8 = .ok (.istore_n 2, 1) := by decide +kernel
theorem dX1_rungs_9 : decode cX1_rungs 9 = .ok (.iload_n 2, 1) := by decide +kernel
theorem dX1_rungs_10 : decode cX1_rungs 10 = .ok (.sipush 12000, 3) := by decide +kernel
theorem dX1_rungs_13 : decode cX1_rungs 13 = .ok (.if_icmp .gt 25, 3) := by decide +kernel
theorem dX1_rungs_16 : decode cX1_rungs 16 = .ok (.iload_n 1, 1) := by decide +kernel
theorem dX1_rungs_17 : decode cX1_rungs 17 = .ok (.aload_n 0, 1) := by decide +kernel
theorem dX1_rungs_18 : decode cX1_rungs 18 = .ok (.iload_n 2, 1) := by decide +kernel
theorem dX1_rungs_19 : decode cX1_rungs 19 = .ok (.invokevirtual 72, 3) := by decide +kernel
theorem dX1_rungs_22 : decode cX1_rungs 22 = .ok (.ifCond .lt 7, 3) := by decide +kernel
theorem dX1_rungs_25 : decode cX1_rungs 25 = .ok (.iconst 1, 1) := by decide +kernel
theorem dX1_rungs_26 : decode cX1_rungs 26 = .ok (.goto 4, 3) := by decide +kernel
theorem dX1_rungs_29 : decode cX1_rungs 29 = .ok (.iconst 0, 1) := by decide +kernel
theorem dX1_rungs_30 : decode cX1_rungs 30 = .ok (.iadd, 1) := by decide +kernel
theorem dX1_rungs_31 : decode cX1_rungs 31 = .ok (.istore_n 1, 1) := by decide +kernel
theorem dX1_rungs_32 : decode cX1_rungs 32 = .ok (.iinc 2 100, 3) := by decide +kernel
theorem dX1_rungs_35 : decode cX1_rungs 35 = .ok (.goto (-26), 3) := by decide +kernel
theorem dX1_rungs_38 : decode cX1_rungs 38 = .ok (.iload_n 1, 1) := by decide +kernel
theorem dX1_rungs_39 : decode cX1_rungs 39 = .ok (.ireturn, 1) := by decide +kernel
set_option maxRecDepth 20000 in
theorem ggX1_nearest_X1_isPitch : GoodIn wsX1_nearest wsX1_isPitch := goodIn_r _ [4, 5, 6, 3, 7] (by decide +kernel) (by decide +kernel)
set_option maxRecDepth 20000 in
theorem gX1_nearest_X1_isPitch : GoodIn wsX1_nearest (va_wsS RX1 59 yX1_isPitch wsX1_isPitch) := goodIn_app (goodIn_of _ (by decide +kernel)) ggX1_nearest_X1_isPitch
set_option maxRecDepth 20000 in
theorem ggX1_nearest_X1_holds : GoodIn wsX1_nearest wsX1_holds := goodIn_r _ [11, 12, 35, 36, 37, 38, 39, 40, 41, 42, 43, 44, 45, 46, 47] (by decide +kernel) (by decide +kernel)
set_option maxRecDepth 20000 in
theorem gX1_nearest_X1_holds : GoodIn wsX1_nearest (wsV RX1 79 RX1 yX1_holds wsX1_holds) := goodIn_app (goodIn_of _ (by decide +kernel)) ggX1_nearest_X1_holds
set_option maxRecDepth 20000 in
theorem ggX1_nearest_X1_near : GoodIn wsX1_nearest wsX1_near := goodIn_r _ [16, 17, 18, 19, 3, 20, 21, 22, 1, 2, 4, 5, 6, 7, 23, 24, 25, 26, 27, 28, 29, 30, 31, 32, 33, 34, 35, 36, 37, 38, 39, 40, 41, 42, 43, 44, 45, 46, 47] (by decide +kernel) (by decide +kernel)
set_option maxRecDepth 20000 in
theorem gX1_nearest_X1_near : GoodIn wsX1_nearest (wsV RX1 85 RX1 yX1_near wsX1_near) := goodIn_app (goodIn_of _ (by decide +kernel)) ggX1_nearest_X1_near
theorem dX1_nearest_0 : decode cX1_nearest 0 = .ok (.aload_n 0, 1) := by decide +kernel
theorem dX1_nearest_1 : decode cX1_nearest 1 = .ok (.iload_n 1, 1) := by decide +kernel
theorem dX1_nearest_2 : decode cX1_nearest 2 = .ok (.invokestatic 59, 3) := by decide +kernel
theorem dX1_nearest_5 : decode cX1_nearest 5 = .ok (.ifCond .eq 7, 3) := by decide +kernel
theorem dX1_nearest_8 : decode cX1_nearest 8 = .ok (.iconst 0, 1) := by decide +kernel
theorem dX1_nearest_9 : decode cX1_nearest 9 = .ok (.goto 4, 3) := by decide +kernel
theorem dX1_nearest_12 : decode cX1_nearest 12 = .ok (.iconst 1, 1) := by decide +kernel
theorem dX1_nearest_13 : decode cX1_nearest 13 = .ok (.invokevirtual 79, 3) := by decide +kernel
theorem dX1_nearest_16 : decode cX1_nearest 16 = .ok (.ifCond .eq 11, 3) := by decide +kernel
theorem dX1_nearest_19 : decode cX1_nearest 19 = .ok (.aload_n 0, 1) := by decide +kernel
theorem dX1_nearest_20 : decode cX1_nearest 20 = .ok (.iload_n 1, 1) := by decide +kernel
theorem dX1_nearest_21 : decode cX1_nearest 21 = .ok (.invokevirtual 85, 3) := by decide +kernel
theorem dX1_nearest_24 : decode cX1_nearest 24 = .ok (.goto 4, 3) := by decide +kernel
theorem dX1_nearest_27 : decode cX1_nearest 27 = .ok (.iconst 0, 1) := by decide +kernel
theorem dX1_nearest_28 : decode cX1_nearest 28 = .ok (.ireturn, 1) := by decide +kernel
set_option maxRecDepth 20000 in
theorem ggX1_rung_X1_step : GoodIn wsX1_rung wsX1_step := goodIn_r _ [5, 6, 7, 8, 9, 4, 10, 11, 12, 13, 14, 15, 16, 17, 18, 19, 20, 21, 22, 23, 24, 25, 31, 32, 33, 34, 35, 36, 37, 38, 39, 40, 41, 42, 43] (by decide +kernel) (by decide +kernel)
set_option maxRecDepth 20000 in
theorem gX1_rung_X1_step : GoodIn wsX1_rung (wsV RX1 72 RX1 yX1_step wsX1_step) := goodIn_app (goodIn_of _ (by decide +kernel)) ggX1_rung_X1_step
set_option maxRecDepth 20000 in
theorem ggX1_rung_X1_holds : GoodIn wsX1_rung wsX1_holds := goodIn_r _ [29, 30, 31, 32, 33, 34, 35, 36, 37, 38, 39, 40, 41, 42, 43] (by decide +kernel) (by decide +kernel)
set_option maxRecDepth 20000 in
theorem gX1_rung_X1_holds : GoodIn wsX1_rung (wsV RX1 79 RX1 yX1_holds wsX1_holds) := goodIn_app (goodIn_of _ (by decide +kernel)) ggX1_rung_X1_holds
theorem dX1_rung_0 : decode cX1_rung 0 = .ok (.iload_n 1, 1) := by decide +kernel
theorem dX1_rung_1 : decode cX1_rung 1 = .ok (.istore_n 2, 1) := by decide +kernel
theorem dX1_rung_2 : decode cX1_rung 2 = .ok (.iconst (-1), 1) := by decide +kernel
theorem dX1_rung_3 : decode cX1_rung 3 = .ok (.istore_n 3, 1) := by decide +kernel
theorem dX1_rung_4 : decode cX1_rung 4 = .ok (.iconst 0, 1) := by decide +kernel
theorem dX1_rung_5 : decode cX1_rung 5 = .ok (.istore 4, 2) := by decide +kernel
theorem dX1_rung_7 : decode cX1_rung 7 = .ok (.iload 4, 2) := by decide +kernel
theorem dX1_rung_9 : decode cX1_rung 9 = .ok (.sipush 12000, 3) := by decide +kernel
theorem dX1_rung_12 : decode cX1_rung 12 = .ok (.if_icmp .gt 32, 3) := by decide +kernel
theorem dX1_rung_15 : decode cX1_rung 15 = .ok (.aload_n 0, 1) := by decide +kernel
theorem dX1_rung_16 : decode cX1_rung 16 = .ok (.iload 4, 2) := by decide +kernel
theorem dX1_rung_18 : decode cX1_rung 18 = .ok (.invokevirtual 72, 3) := by decide +kernel
theorem dX1_rung_21 : decode cX1_rung 21 = .ok (.ifCond .lt 17, 3) := by decide +kernel
theorem dX1_rung_24 : decode cX1_rung 24 = .ok (.iload_n 2, 1) := by decide +kernel
theorem dX1_rung_25 : decode cX1_rung 25 = .ok (.ifCond .ne 8, 3) := by decide +kernel
theorem dX1_rung_28 : decode cX1_rung 28 = .ok (.iload 4, 2) := by decide +kernel
theorem dX1_rung_30 : decode cX1_rung 30 = .ok (.goto 4, 3) := by decide +kernel
theorem dX1_rung_33 : decode cX1_rung 33 = .ok (.iload_n 3, 1) := by decide +kernel
theorem dX1_rung_34 : decode cX1_rung 34 = .ok (.istore_n 3, 1) := by decide +kernel
theorem dX1_rung_35 : decode cX1_rung 35 = .ok (.iinc 2 (-1), 3) := by decide +kernel
theorem dX1_rung_38 : decode cX1_rung 38 = .ok (.iinc 4 100, 3) := by decide +kernel
theorem dX1_rung_41 : decode cX1_rung 41 = .ok (.goto (-34), 3) := by decide +kernel
theorem dX1_rung_44 : decode cX1_rung 44 = .ok (.aload_n 0, 1) := by decide +kernel
theorem dX1_rung_45 : decode cX1_rung 45 = .ok (.iload_n 3, 1) := by decide +kernel
theorem dX1_rung_46 : decode cX1_rung 46 = .ok (.ifCond .lt 7, 3) := by decide +kernel
theorem dX1_rung_49 : decode cX1_rung 49 = .ok (.iconst 0, 1) := by decide +kernel
theorem dX1_rung_50 : decode cX1_rung 50 = .ok (.goto 4, 3) := by decide +kernel
theorem dX1_rung_53 : decode cX1_rung 53 = .ok (.iconst 1, 1) := by decide +kernel
theorem dX1_rung_54 : decode cX1_rung 54 = .ok (.invokevirtual 79, 3) := by decide +kernel
theorem dX1_rung_57 : decode cX1_rung 57 = .ok (.ifCond .eq 7, 3) := by decide +kernel
theorem dX1_rung_60 : decode cX1_rung 60 = .ok (.iload_n 3, 1) := by decide +kernel
theorem dX1_rung_61 : decode cX1_rung 61 = .ok (.goto 4, 3) := by decide +kernel
theorem dX1_rung_64 : decode cX1_rung 64 = .ok (.iconst 0, 1) := by decide +kernel
theorem dX1_rung_65 : decode cX1_rung 65 = .ok (.ireturn, 1) := by decide +kernel
set_option maxRecDepth 20000 in
theorem ggX1_stepOf_X1_isPitch : GoodIn wsX1_stepOf wsX1_isPitch := goodIn_r _ [4, 5, 6, 3, 7] (by decide +kernel) (by decide +kernel)
set_option maxRecDepth 20000 in
theorem gX1_stepOf_X1_isPitch : GoodIn wsX1_stepOf (va_wsS RX1 59 yX1_isPitch wsX1_isPitch) := goodIn_app (goodIn_of _ (by decide +kernel)) ggX1_stepOf_X1_isPitch
set_option maxRecDepth 20000 in
theorem ggX1_stepOf_X1_holds : GoodIn wsX1_stepOf wsX1_holds := goodIn_r _ [11, 12, 31, 32, 33, 34, 35, 36, 37, 38, 39, 40, 41, 42, 43] (by decide +kernel) (by decide +kernel)
set_option maxRecDepth 20000 in
theorem gX1_stepOf_X1_holds : GoodIn wsX1_stepOf (wsV RX1 79 RX1 yX1_holds wsX1_holds) := goodIn_app (goodIn_of _ (by decide +kernel)) ggX1_stepOf_X1_holds
set_option maxRecDepth 20000 in
theorem ggX1_stepOf_X1_step : GoodIn wsX1_stepOf wsX1_step := goodIn_r _ [16, 17, 18, 1, 2, 3, 4, 5, 6, 7, 19, 20, 21, 22, 23, 24, 25, 26, 27, 28, 29, 30, 31, 32, 33, 34, 35, 36, 37, 38, 39, 40, 41, 42, 43] (by decide +kernel) (by decide +kernel)
set_option maxRecDepth 20000 in
theorem gX1_stepOf_X1_step : GoodIn wsX1_stepOf (wsV RX1 72 RX1 yX1_step wsX1_step) := goodIn_app (goodIn_of _ (by decide +kernel)) ggX1_stepOf_X1_step
theorem dX1_stepOf_0 : decode cX1_stepOf 0 = .ok (.aload_n 0, 1) := by decide +kernel
theorem dX1_stepOf_1 : decode cX1_stepOf 1 = .ok (.iload_n 1, 1) := by decide +kernel
theorem dX1_stepOf_2 : decode cX1_stepOf 2 = .ok (.invokestatic 59, 3) := by decide +kernel
theorem dX1_stepOf_5 : decode cX1_stepOf 5 = .ok (.ifCond .eq 7, 3) := by decide +kernel
theorem dX1_stepOf_8 : decode cX1_stepOf 8 = .ok (.iconst 0, 1) := by decide +kernel
theorem dX1_stepOf_9 : decode cX1_stepOf 9 = .ok (.goto 4, 3) := by decide +kernel
theorem dX1_stepOf_12 : decode cX1_stepOf 12 = .ok (.iconst 1, 1) := by decide +kernel
theorem dX1_stepOf_13 : decode cX1_stepOf 13 = .ok (.invokevirtual 79, 3) := by decide +kernel
theorem dX1_stepOf_16 : decode cX1_stepOf 16 = .ok (.ifCond .eq 11, 3) := by decide +kernel
theorem dX1_stepOf_19 : decode cX1_stepOf 19 = .ok (.aload_n 0, 1) := by decide +kernel
theorem dX1_stepOf_20 : decode cX1_stepOf 20 = .ok (.iload_n 1, 1) := by decide +kernel
theorem dX1_stepOf_21 : decode cX1_stepOf 21 = .ok (.invokevirtual 72, 3) := by decide +kernel
theorem dX1_stepOf_24 : decode cX1_stepOf 24 = .ok (.goto 4, 3) := by decide +kernel
theorem dX1_stepOf_27 : decode cX1_stepOf 27 = .ok (.iconst 0, 1) := by decide +kernel
theorem dX1_stepOf_28 : decode cX1_stepOf 28 = .ok (.ireturn, 1) := by decide +kernel
set_option maxRecDepth 20000 in
theorem ggX1_rungOf_X1_isWren : GoodIn wsX1_rungOf wsX1_isWren := goodIn_r _ [5, 6, 7, 4, 8] (by decide +kernel) (by decide +kernel)
set_option maxRecDepth 20000 in
theorem gX1_rungOf_X1_isWren : GoodIn wsX1_rungOf (va_wsS RX1 91 yX1_isWren wsX1_isWren) := goodIn_app (goodIn_of _ (by decide +kernel)) ggX1_rungOf_X1_isWren
set_option maxRecDepth 20000 in
theorem ggX1_rungOf_X1_holds : GoodIn wsX1_rungOf wsX1_holds := goodIn_r _ [12, 13, 14, 15, 16, 17, 18, 19, 20, 21, 22, 23, 24, 25, 26] (by decide +kernel) (by decide +kernel)
set_option maxRecDepth 20000 in
theorem gX1_rungOf_X1_holds : GoodIn wsX1_rungOf (wsV RX1 79 RX1 yX1_holds wsX1_holds) := goodIn_app (goodIn_of _ (by decide +kernel)) ggX1_rungOf_X1_holds
theorem dX1_rungOf_0 : decode cX1_rungOf 0 = .ok (.aload_n 0, 1) := by decide +kernel
theorem dX1_rungOf_1 : decode cX1_rungOf 1 = .ok (.iload_n 1, 1) := by decide +kernel
theorem dX1_rungOf_2 : decode cX1_rungOf 2 = .ok (.invokestatic 91, 3) := by decide +kernel
theorem dX1_rungOf_5 : decode cX1_rungOf 5 = .ok (.ifCond .eq 7, 3) := by decide +kernel
theorem dX1_rungOf_8 : decode cX1_rungOf 8 = .ok (.iconst 0, 1) := by decide +kernel
theorem dX1_rungOf_9 : decode cX1_rungOf 9 = .ok (.goto 4, 3) := by decide +kernel
theorem dX1_rungOf_12 : decode cX1_rungOf 12 = .ok (.iconst 1, 1) := by decide +kernel
theorem dX1_rungOf_13 : decode cX1_rungOf 13 = .ok (.invokevirtual 79, 3) := by decide +kernel
theorem dX1_rungOf_16 : decode cX1_rungOf 16 = .ok (.ifCond .eq 12, 3) := by decide +kernel
theorem dX1_rungOf_19 : decode cX1_rungOf 19 = .ok (.aload_n 0, 1) := by decide +kernel
theorem dX1_rungOf_20 : decode cX1_rungOf 20 = .ok (.getfield 19, 3) := by decide +kernel
theorem dX1_rungOf_23 : decode cX1_rungOf 23 = .ok (.iload_n 1, 1) := by decide +kernel
theorem dX1_rungOf_24 : decode cX1_rungOf 24 = .ok (.iaload, 1) := by decide +kernel
theorem dX1_rungOf_25 : decode cX1_rungOf 25 = .ok (.goto 4, 3) := by decide +kernel
theorem dX1_rungOf_28 : decode cX1_rungOf 28 = .ok (.iconst 0, 1) := by decide +kernel
theorem dX1_rungOf_29 : decode cX1_rungOf 29 = .ok (.ireturn, 1) := by decide +kernel
set_option maxRecDepth 20000 in
theorem ggX1_nudgeOf_X1_isWren : GoodIn wsX1_nudgeOf wsX1_isWren := goodIn_r _ [5, 6, 7, 4, 8] (by decide +kernel) (by decide +kernel)
set_option maxRecDepth 20000 in
theorem gX1_nudgeOf_X1_isWren : GoodIn wsX1_nudgeOf (va_wsS RX1 91 yX1_isWren wsX1_isWren) := goodIn_app (goodIn_of _ (by decide +kernel)) ggX1_nudgeOf_X1_isWren
set_option maxRecDepth 20000 in
theorem ggX1_nudgeOf_X1_holds : GoodIn wsX1_nudgeOf wsX1_holds := goodIn_r _ [12, 13, 14, 15, 16, 17, 18, 19, 20, 21, 22, 23, 24, 25, 26] (by decide +kernel) (by decide +kernel)
set_option maxRecDepth 20000 in
theorem gX1_nudgeOf_X1_holds : GoodIn wsX1_nudgeOf (wsV RX1 79 RX1 yX1_holds wsX1_holds) := goodIn_app (goodIn_of _ (by decide +kernel)) ggX1_nudgeOf_X1_holds
theorem dX1_nudgeOf_0 : decode cX1_nudgeOf 0 = .ok (.aload_n 0, 1) := by decide +kernel
theorem dX1_nudgeOf_1 : decode cX1_nudgeOf 1 = .ok (.iload_n 1, 1) := by decide +kernel
theorem dX1_nudgeOf_2 : decode cX1_nudgeOf 2 = .ok (.invokestatic 91, 3) := by decide +kernel
theorem dX1_nudgeOf_5 : decode cX1_nudgeOf 5 = .ok (.ifCond .eq 7, 3) := by decide +kernel
theorem dX1_nudgeOf_8 : decode cX1_nudgeOf 8 = .ok (.iconst 0, 1) := by decide +kernel
theorem dX1_nudgeOf_9 : decode cX1_nudgeOf 9 = .ok (.goto 4, 3) := by decide +kernel
theorem dX1_nudgeOf_12 : decode cX1_nudgeOf 12 = .ok (.iconst 1, 1) := by decide +kernel
theorem dX1_nudgeOf_13 : decode cX1_nudgeOf 13 = .ok (.invokevirtual 79, 3) := by decide +kernel
theorem dX1_nudgeOf_16 : decode cX1_nudgeOf 16 = .ok (.ifCond .eq 12, 3) := by decide +kernel
theorem dX1_nudgeOf_19 : decode cX1_nudgeOf 19 = .ok (.aload_n 0, 1) := by decide +kernel
theorem dX1_nudgeOf_20 : decode cX1_nudgeOf 20 = .ok (.getfield 23, 3) := by decide +kernel
theorem dX1_nudgeOf_23 : decode cX1_nudgeOf 23 = .ok (.iload_n 1, 1) := by decide +kernel
theorem dX1_nudgeOf_24 : decode cX1_nudgeOf 24 = .ok (.iaload, 1) := by decide +kernel
theorem dX1_nudgeOf_25 : decode cX1_nudgeOf 25 = .ok (.goto 4, 3) := by decide +kernel
theorem dX1_nudgeOf_28 : decode cX1_nudgeOf 28 = .ok (.iconst 0, 1) := by decide +kernel
theorem dX1_nudgeOf_29 : decode cX1_nudgeOf 29 = .ok (.ireturn, 1) := by decide +kernel
set_option maxRecDepth 20000 in
theorem ggX1_framesOf_X1_isWren : GoodIn wsX1_framesOf wsX1_isWren := goodIn_r _ [5, 6, 7, 4, 8] (by decide +kernel) (by decide +kernel)
set_option maxRecDepth 20000 in
theorem gX1_framesOf_X1_isWren : GoodIn wsX1_framesOf (va_wsS RX1 91 yX1_isWren wsX1_isWren) := goodIn_app (goodIn_of _ (by decide +kernel)) ggX1_framesOf_X1_isWren
set_option maxRecDepth 20000 in
theorem ggX1_framesOf_X1_holds : GoodIn wsX1_framesOf wsX1_holds := goodIn_r _ [12, 13, 14, 15, 16, 17, 18, 19, 20, 21, 22, 23, 24, 25, 26] (by decide +kernel) (by decide +kernel)
set_option maxRecDepth 20000 in
theorem gX1_framesOf_X1_holds : GoodIn wsX1_framesOf (wsV RX1 79 RX1 yX1_holds wsX1_holds) := goodIn_app (goodIn_of _ (by decide +kernel)) ggX1_framesOf_X1_holds
theorem dX1_framesOf_0 : decode cX1_framesOf 0 = .ok (.aload_n 0, 1) := by decide +kernel
theorem dX1_framesOf_1 : decode cX1_framesOf 1 = .ok (.iload_n 1, 1) := by decide +kernel
theorem dX1_framesOf_2 : decode cX1_framesOf 2 = .ok (.invokestatic 91, 3) := by decide +kernel
theorem dX1_framesOf_5 : decode cX1_framesOf 5 = .ok (.ifCond .eq 7, 3) := by decide +kernel
theorem dX1_framesOf_8 : decode cX1_framesOf 8 = .ok (.iconst 0, 1) := by decide +kernel
theorem dX1_framesOf_9 : decode cX1_framesOf 9 = .ok (.goto 4, 3) := by decide +kernel
theorem dX1_framesOf_12 : decode cX1_framesOf 12 = .ok (.iconst 1, 1) := by decide +kernel
theorem dX1_framesOf_13 : decode cX1_framesOf 13 = .ok (.invokevirtual 79, 3) := by decide +kernel
theorem dX1_framesOf_16 : decode cX1_framesOf 16 = .ok (.ifCond .eq 12, 3) := by decide +kernel
theorem dX1_framesOf_19 : decode cX1_framesOf 19 = .ok (.aload_n 0, 1) := by decide +kernel
theorem dX1_framesOf_20 : decode cX1_framesOf 20 = .ok (.getfield 26, 3) := by decide +kernel
theorem dX1_framesOf_23 : decode cX1_framesOf 23 = .ok (.iload_n 1, 1) := by decide +kernel
theorem dX1_framesOf_24 : decode cX1_framesOf 24 = .ok (.iaload, 1) := by decide +kernel
theorem dX1_framesOf_25 : decode cX1_framesOf 25 = .ok (.goto 4, 3) := by decide +kernel
theorem dX1_framesOf_28 : decode cX1_framesOf 28 = .ok (.iconst 0, 1) := by decide +kernel
theorem dX1_framesOf_29 : decode cX1_framesOf 29 = .ok (.ireturn, 1) := by decide +kernel
set_option maxRecDepth 20000 in
theorem ggX1_changesOf_X1_isWren : GoodIn wsX1_changesOf wsX1_isWren := goodIn_r _ [5, 6, 7, 4, 8] (by decide +kernel) (by decide +kernel)
set_option maxRecDepth 20000 in
theorem gX1_changesOf_X1_isWren : GoodIn wsX1_changesOf (va_wsS RX1 91 yX1_isWren wsX1_isWren) := goodIn_app (goodIn_of _ (by decide +kernel)) ggX1_changesOf_X1_isWren
set_option maxRecDepth 20000 in
theorem ggX1_changesOf_X1_holds : GoodIn wsX1_changesOf wsX1_holds := goodIn_r _ [12, 13, 14, 15, 16, 17, 18, 19, 20, 21, 22, 23, 24, 25, 26] (by decide +kernel) (by decide +kernel)
set_option maxRecDepth 20000 in
theorem gX1_changesOf_X1_holds : GoodIn wsX1_changesOf (wsV RX1 79 RX1 yX1_holds wsX1_holds) := goodIn_app (goodIn_of _ (by decide +kernel)) ggX1_changesOf_X1_holds
theorem dX1_changesOf_0 : decode cX1_changesOf 0 = .ok (.aload_n 0, 1) := by decide +kernel
theorem dX1_changesOf_1 : decode cX1_changesOf 1 = .ok (.iload_n 1, 1) := by decide +kernel
theorem dX1_changesOf_2 : decode cX1_changesOf 2 = .ok (.invokestatic 91, 3) := by decide +kernel
theorem dX1_changesOf_5 : decode cX1_changesOf 5 = .ok (.ifCond .eq 7, 3) := by decide +kernel
theorem dX1_changesOf_8 : decode cX1_changesOf 8 = .ok (.iconst 0, 1) := by decide +kernel
theorem dX1_changesOf_9 : decode cX1_changesOf 9 = .ok (.goto 4, 3) := by decide +kernel
theorem dX1_changesOf_12 : decode cX1_changesOf 12 = .ok (.iconst 1, 1) := by decide +kernel
theorem dX1_changesOf_13 : decode cX1_changesOf 13 = .ok (.invokevirtual 79, 3) := by decide +kernel
theorem dX1_changesOf_16 : decode cX1_changesOf 16 = .ok (.ifCond .eq 12, 3) := by decide +kernel
theorem dX1_changesOf_19 : decode cX1_changesOf 19 = .ok (.aload_n 0, 1) := by decide +kernel
theorem dX1_changesOf_20 : decode cX1_changesOf 20 = .ok (.getfield 29, 3) := by decide +kernel
theorem dX1_changesOf_23 : decode cX1_changesOf 23 = .ok (.iload_n 1, 1) := by decide +kernel
theorem dX1_changesOf_24 : decode cX1_changesOf 24 = .ok (.iaload, 1) := by decide +kernel
theorem dX1_changesOf_25 : decode cX1_changesOf 25 = .ok (.goto 4, 3) := by decide +kernel
theorem dX1_changesOf_28 : decode cX1_changesOf 28 = .ok (.iconst 0, 1) := by decide +kernel
theorem dX1_changesOf_29 : decode cX1_changesOf 29 = .ok (.ireturn, 1) := by decide +kernel
set_option maxRecDepth 20000 in
theorem ggX1_leapsOf_X1_isWren : GoodIn wsX1_leapsOf wsX1_isWren := goodIn_r _ [5, 6, 7, 4, 8] (by decide +kernel) (by decide +kernel)
set_option maxRecDepth 20000 in
theorem gX1_leapsOf_X1_isWren : GoodIn wsX1_leapsOf (va_wsS RX1 91 yX1_isWren wsX1_isWren) := goodIn_app (goodIn_of _ (by decide +kernel)) ggX1_leapsOf_X1_isWren
set_option maxRecDepth 20000 in
theorem ggX1_leapsOf_X1_holds : GoodIn wsX1_leapsOf wsX1_holds := goodIn_r _ [12, 13, 14, 15, 16, 17, 18, 19, 20, 21, 22, 23, 24, 25, 26] (by decide +kernel) (by decide +kernel)
set_option maxRecDepth 20000 in
theorem gX1_leapsOf_X1_holds : GoodIn wsX1_leapsOf (wsV RX1 79 RX1 yX1_holds wsX1_holds) := goodIn_app (goodIn_of _ (by decide +kernel)) ggX1_leapsOf_X1_holds
theorem dX1_leapsOf_0 : decode cX1_leapsOf 0 = .ok (.aload_n 0, 1) := by decide +kernel
theorem dX1_leapsOf_1 : decode cX1_leapsOf 1 = .ok (.iload_n 1, 1) := by decide +kernel
theorem dX1_leapsOf_2 : decode cX1_leapsOf 2 = .ok (.invokestatic 91, 3) := by decide +kernel
theorem dX1_leapsOf_5 : decode cX1_leapsOf 5 = .ok (.ifCond .eq 7, 3) := by decide +kernel
theorem dX1_leapsOf_8 : decode cX1_leapsOf 8 = .ok (.iconst 0, 1) := by decide +kernel
theorem dX1_leapsOf_9 : decode cX1_leapsOf 9 = .ok (.goto 4, 3) := by decide +kernel
theorem dX1_leapsOf_12 : decode cX1_leapsOf 12 = .ok (.iconst 1, 1) := by decide +kernel
theorem dX1_leapsOf_13 : decode cX1_leapsOf 13 = .ok (.invokevirtual 79, 3) := by decide +kernel
theorem dX1_leapsOf_16 : decode cX1_leapsOf 16 = .ok (.ifCond .eq 12, 3) := by decide +kernel
theorem dX1_leapsOf_19 : decode cX1_leapsOf 19 = .ok (.aload_n 0, 1) := by decide +kernel
theorem dX1_leapsOf_20 : decode cX1_leapsOf 20 = .ok (.getfield 32, 3) := by decide +kernel
theorem dX1_leapsOf_23 : decode cX1_leapsOf 23 = .ok (.iload_n 1, 1) := by decide +kernel
theorem dX1_leapsOf_24 : decode cX1_leapsOf 24 = .ok (.iaload, 1) := by decide +kernel
theorem dX1_leapsOf_25 : decode cX1_leapsOf 25 = .ok (.goto 4, 3) := by decide +kernel
theorem dX1_leapsOf_28 : decode cX1_leapsOf 28 = .ok (.iconst 0, 1) := by decide +kernel
theorem dX1_leapsOf_29 : decode cX1_leapsOf 29 = .ok (.ireturn, 1) := by decide +kernel
set_option maxRecDepth 20000 in
theorem ggX1_cleanOf_X1_isWren : GoodIn wsX1_cleanOf wsX1_isWren := goodIn_r _ [5, 6, 7, 4, 8] (by decide +kernel) (by decide +kernel)
set_option maxRecDepth 20000 in
theorem gX1_cleanOf_X1_isWren : GoodIn wsX1_cleanOf (va_wsS RX1 91 yX1_isWren wsX1_isWren) := goodIn_app (goodIn_of _ (by decide +kernel)) ggX1_cleanOf_X1_isWren
set_option maxRecDepth 20000 in
theorem ggX1_cleanOf_X1_holds : GoodIn wsX1_cleanOf wsX1_holds := goodIn_r _ [12, 13, 14, 15, 16, 17, 18, 19, 20, 21, 22, 23, 24, 25, 26] (by decide +kernel) (by decide +kernel)
set_option maxRecDepth 20000 in
theorem gX1_cleanOf_X1_holds : GoodIn wsX1_cleanOf (wsV RX1 79 RX1 yX1_holds wsX1_holds) := goodIn_app (goodIn_of _ (by decide +kernel)) ggX1_cleanOf_X1_holds
theorem dX1_cleanOf_0 : decode cX1_cleanOf 0 = .ok (.aload_n 0, 1) := by decide +kernel
theorem dX1_cleanOf_1 : decode cX1_cleanOf 1 = .ok (.iload_n 1, 1) := by decide +kernel
theorem dX1_cleanOf_2 : decode cX1_cleanOf 2 = .ok (.invokestatic 91, 3) := by decide +kernel
theorem dX1_cleanOf_5 : decode cX1_cleanOf 5 = .ok (.ifCond .eq 7, 3) := by decide +kernel
theorem dX1_cleanOf_8 : decode cX1_cleanOf 8 = .ok (.iconst 0, 1) := by decide +kernel
theorem dX1_cleanOf_9 : decode cX1_cleanOf 9 = .ok (.goto 4, 3) := by decide +kernel
theorem dX1_cleanOf_12 : decode cX1_cleanOf 12 = .ok (.iconst 1, 1) := by decide +kernel
theorem dX1_cleanOf_13 : decode cX1_cleanOf 13 = .ok (.invokevirtual 79, 3) := by decide +kernel
theorem dX1_cleanOf_16 : decode cX1_cleanOf 16 = .ok (.ifCond .eq 12, 3) := by decide +kernel
theorem dX1_cleanOf_19 : decode cX1_cleanOf 19 = .ok (.aload_n 0, 1) := by decide +kernel
theorem dX1_cleanOf_20 : decode cX1_cleanOf 20 = .ok (.getfield 35, 3) := by decide +kernel
theorem dX1_cleanOf_23 : decode cX1_cleanOf 23 = .ok (.iload_n 1, 1) := by decide +kernel
theorem dX1_cleanOf_24 : decode cX1_cleanOf 24 = .ok (.iaload, 1) := by decide +kernel
theorem dX1_cleanOf_25 : decode cX1_cleanOf 25 = .ok (.goto 4, 3) := by decide +kernel
theorem dX1_cleanOf_28 : decode cX1_cleanOf 28 = .ok (.iconst 0, 1) := by decide +kernel
theorem dX1_cleanOf_29 : decode cX1_cleanOf 29 = .ok (.ireturn, 1) := by decide +kernel
set_option maxRecDepth 20000 in
theorem ggX1_framesToRung_X1_isWren : GoodIn wsX1_framesToRung wsX1_isWren := goodIn_r _ [6, 7, 8, 5, 9] (by decide +kernel) (by decide +kernel)
set_option maxRecDepth 20000 in
theorem gX1_framesToRung_X1_isWren : GoodIn wsX1_framesToRung (va_wsS RX1 91 yX1_isWren wsX1_isWren) := goodIn_app (goodIn_of _ (by decide +kernel)) ggX1_framesToRung_X1_isWren
set_option maxRecDepth 20000 in
theorem ggX1_framesToRung_X1_isPitch : GoodIn wsX1_framesToRung wsX1_isPitch := goodIn_r _ [12, 7, 8, 5, 9] (by decide +kernel) (by decide +kernel)
set_option maxRecDepth 20000 in
theorem gX1_framesToRung_X1_isPitch : GoodIn wsX1_framesToRung (va_wsS RX1 59 yX1_isPitch wsX1_isPitch) := goodIn_app (goodIn_of _ (by decide +kernel)) ggX1_framesToRung_X1_isPitch
set_option maxRecDepth 20000 in
theorem ggX1_framesToRung_X1_holds : GoodIn wsX1_framesToRung wsX1_holds := goodIn_r _ [16, 17, 50, 51, 52, 53, 54, 55, 56, 57, 58, 59, 60, 61, 62] (by decide +kernel) (by decide +kernel)
set_option maxRecDepth 20000 in
theorem gX1_framesToRung_X1_holds : GoodIn wsX1_framesToRung (wsV RX1 79 RX1 yX1_holds wsX1_holds) := goodIn_app (goodIn_of _ (by decide +kernel)) ggX1_framesToRung_X1_holds
set_option maxRecDepth 20000 in
theorem ggX1_framesToRung_X1_moves : GoodIn wsX1_framesToRung wsX1_moves := goodIn_r _ [21, 1, 22, 23, 2, 24, 25, 26, 5, 27, 28, 29, 30, 31, 32, 33, 34, 35, 36, 37, 10, 11, 12, 7, 8, 9, 38, 39, 40, 41, 42, 43, 44, 45, 46, 47, 48, 49, 50, 51, 52, 53, 54, 55, 56, 57, 58, 59, 60, 61, 62] (by decide +kernel) (by decide +kernel)
set_option maxRecDepth 20000 in
theorem gX1_framesToRung_X1_moves : GoodIn wsX1_framesToRung (wsV RX1 88 RX1 yX1_moves wsX1_moves) := goodIn_app (goodIn_of _ (by decide +kernel)) ggX1_framesToRung_X1_moves
theorem dX1_framesToRung_0 : decode cX1_framesToRung 0 = .ok (.aload_n 0, 1) := by decide +kernel
theorem dX1_framesToRung_1 : decode cX1_framesToRung 1 = .ok (.iload_n 1, 1) := by decide +kernel
theorem dX1_framesToRung_2 : decode cX1_framesToRung 2 = .ok (.invokestatic 91, 3) := by decide +kernel
theorem dX1_framesToRung_5 : decode cX1_framesToRung 5 = .ok (.ifCond .ne 7, 3) := by decide +kernel
theorem dX1_framesToRung_8 : decode cX1_framesToRung 8 = .ok (.iconst 1, 1) := by decide +kernel
theorem dX1_framesToRung_9 : decode cX1_framesToRung 9 = .ok (.goto 15, 3) := by decide +kernel
theorem dX1_framesToRung_12 : decode cX1_framesToRung 12 = .ok (.iload_n 2, 1) := by decide +kernel
theorem dX1_framesToRung_13 : decode cX1_framesToRung 13 = .ok (.invokestatic 59, 3) := by decide +kernel
theorem dX1_framesToRung_16 : decode cX1_framesToRung 16 = .ok (.ifCond .eq 7, 3) := by decide +kernel
theorem dX1_framesToRung_19 : decode cX1_framesToRung 19 = .ok (.iconst 0, 1) := by decide +kernel
theorem dX1_framesToRung_20 : decode cX1_framesToRung 20 = .ok (.goto 4, 3) := by decide +kernel
theorem dX1_framesToRung_23 : decode cX1_framesToRung 23 = .ok (.iconst 2, 1) := by decide +kernel
theorem dX1_framesToRung_24 : decode cX1_framesToRung 24 = .ok (.invokevirtual 79, 3) := by decide +kernel
theorem dX1_framesToRung_27 : decode cX1_framesToRung 27 = .ok (.ifCond .ne 5, 3) := by decide +kernel
theorem dX1_framesToRung_30 : decode cX1_framesToRung 30 = .ok (.iconst 0, 1) := by decide +kernel
theorem dX1_framesToRung_31 : decode cX1_framesToRung 31 = .ok (.ireturn, 1) := by decide +kernel
theorem dX1_framesToRung_32 : decode cX1_framesToRung 32 = .ok (.aload_n 0, 1) := by decide +kernel
theorem dX1_framesToRung_33 : decode cX1_framesToRung 33 = .ok (.getfield 19, 3) := by decide +kernel
theorem dX1_framesToRung_36 : decode cX1_framesToRung 36 = .ok (.iload_n 1, 1) := by decide +kernel
theorem dX1_framesToRung_37 : decode cX1_framesToRung 37 = .ok (.iaload, 1) := by decide +kernel
theorem dX1_framesToRung_38 : decode cX1_framesToRung 38 = .ok (.istore_n 3, 1) := by decide +kernel
theorem dX1_framesToRung_39 : decode cX1_framesToRung 39 = .ok (.aload_n 0, 1) := by decide +kernel
theorem dX1_framesToRung_40 : decode cX1_framesToRung 40 = .ok (.getfield 23, 3) := by decide +kernel
theorem dX1_framesToRung_43 : decode cX1_framesToRung 43 = .ok (.iload_n 1, 1) := by decide +kernel
theorem dX1_framesToRung_44 : decode cX1_framesToRung 44 = .ok (.iaload, 1) := by decide +kernel
theorem dX1_framesToRung_45 : decode cX1_framesToRung 45 = .ok (.istore 4, 2) := by decide +kernel
theorem dX1_framesToRung_47 : decode cX1_framesToRung 47 = .ok (.iconst (-1), 1) := by decide +kernel
theorem dX1_framesToRung_48 : decode cX1_framesToRung 48 = .ok (.istore 5, 2) := by decide +kernel
theorem dX1_framesToRung_50 : decode cX1_framesToRung 50 = .ok (.iconst 1, 1) := by decide +kernel
theorem dX1_framesToRung_51 : decode cX1_framesToRung 51 = .ok (.istore 6, 2) := by decide +kernel
theorem dX1_framesToRung_53 : decode cX1_framesToRung 53 = .ok (.iload 6, 2) := by decide +kernel
theorem dX1_framesToRung_55 : decode cX1_framesToRung 55 = .ok (.sipush 1000, 3) := by decide +kernel
theorem dX1_framesToRung_58 : decode cX1_framesToRung 58 = .ok (.if_icmp .ge 47, 3) := by decide +kernel
theorem dX1_framesToRung_61 : decode cX1_framesToRung 61 = .ok (.iload 5, 2) := by decide +kernel
theorem dX1_framesToRung_63 : decode cX1_framesToRung 63 = .ok (.ifCond .ge 42, 3) := by decide +kernel
theorem dX1_framesToRung_66 : decode cX1_framesToRung 66 = .ok (.aload_n 0, 1) := by decide +kernel
theorem dX1_framesToRung_67 : decode cX1_framesToRung 67 = .ok (.iload_n 1, 1) := by decide +kernel
theorem dX1_framesToRung_68 : decode cX1_framesToRung 68 = .ok (.iload_n 2, 1) := by decide +kernel
theorem dX1_framesToRung_69 : decode cX1_framesToRung 69 = .ok (.invokevirtual 88, 3) := by decide +kernel
theorem dX1_framesToRung_72 : decode cX1_framesToRung 72 = .ok (.istore 7, 2) := by decide +kernel
theorem dX1_framesToRung_74 : decode cX1_framesToRung 74 = .ok (.iload_n 2, 1) := by decide +kernel
theorem dX1_framesToRung_75 : decode cX1_framesToRung 75 = .ok (.aload_n 0, 1) := by decide +kernel
theorem dX1_framesToRung_76 : decode cX1_framesToRung 76 = .ok (.getfield 23, 3) := by decide +kernel
theorem dX1_framesToRung_79 : decode cX1_framesToRung 79 = .ok (.iload_n 1, 1) := by decide +kernel
theorem dX1_framesToRung_80 : decode cX1_framesToRung 80 = .ok (.iaload, 1) := by decide +kernel
theorem dX1_framesToRung_81 : decode cX1_framesToRung 81 = .ok (.iadd, 1) := by decide +kernel
theorem dX1_framesToRung_82 : decode cX1_framesToRung 82 = .ok (.aload_n 0, 1) := by decide +kernel
theorem dX1_framesToRung_83 : decode cX1_framesToRung 83 = .ok (.getfield 19, 3) := by decide +kernel
theorem dX1_framesToRung_86 : decode cX1_framesToRung 86 = .ok (.iload_n 1, 1) := by decide +kernel
theorem dX1_framesToRung_87 : decode cX1_framesToRung 87 = .ok (.iaload, 1) := by decide +kernel
theorem dX1_framesToRung_88 : decode cX1_framesToRung 88 = .ok (.if_icmp .ne 8, 3) := by decide +kernel
theorem dX1_framesToRung_91 : decode cX1_framesToRung 91 = .ok (.iload 6, 2) := by decide +kernel
theorem dX1_framesToRung_93 : decode cX1_framesToRung 93 = .ok (.goto 4, 3) := by decide +kernel
theorem dX1_framesToRung_96 : decode cX1_framesToRung 96 = .ok (.iconst (-1), 1) := by decide +kernel
theorem dX1_framesToRung_97 : decode cX1_framesToRung 97 = .ok (.istore 5, 2) := by decide +kernel
theorem dX1_framesToRung_99 : decode cX1_framesToRung 99 = .ok (.iinc 6 1, 3) := by decide +kernel
theorem dX1_framesToRung_102 : decode cX1_framesToRung 102 = .ok (.goto (-49), 3) := by decide +kernel
theorem dX1_framesToRung_105 : decode cX1_framesToRung 105 = .ok (.aload_n 0, 1) := by decide +kernel
theorem dX1_framesToRung_106 : decode cX1_framesToRung 106 = .ok (.getfield 19, 3) := by decide +kernel
theorem dX1_framesToRung_109 : decode cX1_framesToRung 109 = .ok (.iload_n 1, 1) := by decide +kernel
theorem dX1_framesToRung_110 : decode cX1_framesToRung 110 = .ok (.iload_n 3, 1) := by decide +kernel
theorem dX1_framesToRung_111 : decode cX1_framesToRung 111 = .ok (.iastore, 1) := by decide +kernel
theorem dX1_framesToRung_112 : decode cX1_framesToRung 112 = .ok (.aload_n 0, 1) := by decide +kernel
theorem dX1_framesToRung_113 : decode cX1_framesToRung 113 = .ok (.getfield 23, 3) := by decide +kernel
theorem dX1_framesToRung_116 : decode cX1_framesToRung 116 = .ok (.iload_n 1, 1) := by decide +kernel
theorem dX1_framesToRung_117 : decode cX1_framesToRung 117 = .ok (.iload 4, 2) := by decide +kernel
theorem dX1_framesToRung_119 : decode cX1_framesToRung 119 = .ok (.iastore, 1) := by decide +kernel
theorem dX1_framesToRung_120 : decode cX1_framesToRung 120 = .ok (.iload 5, 2) := by decide +kernel
theorem dX1_framesToRung_122 : decode cX1_framesToRung 122 = .ok (.ireturn, 1) := by decide +kernel
set_option maxRecDepth 20000 in
theorem ggX1_sung_X1_in : GoodIn wsX1_sung wsX1_in := goodIn_r _ [5] (by decide +kernel) (by decide +kernel)
set_option maxRecDepth 20000 in
theorem gX1_sung_X1_in : GoodIn wsX1_sung (va_wsS RX1 44 yX1_in wsX1_in) := goodIn_app (goodIn_of _ (by decide +kernel)) ggX1_sung_X1_in
set_option maxRecDepth 20000 in
theorem ggX1_sung_X1_holds : GoodIn wsX1_sung wsX1_holds := goodIn_r _ [9, 10, 11, 12, 13, 14, 15, 16, 17, 18, 19, 20, 21, 22, 23] (by decide +kernel) (by decide +kernel)
set_option maxRecDepth 20000 in
theorem gX1_sung_X1_holds : GoodIn wsX1_sung (wsV RX1 79 RX1 yX1_holds wsX1_holds) := goodIn_app (goodIn_of _ (by decide +kernel)) ggX1_sung_X1_holds
theorem dX1_sung_0 : decode cX1_sung 0 = .ok (.aload_n 0, 1) := by decide +kernel
theorem dX1_sung_1 : decode cX1_sung 1 = .ok (.iload_n 1, 1) := by decide +kernel
theorem dX1_sung_2 : decode cX1_sung 2 = .ok (.iconst 0, 1) := by decide +kernel
theorem dX1_sung_3 : decode cX1_sung 3 = .ok (.bipush 11, 2) := by decide +kernel
theorem dX1_sung_5 : decode cX1_sung 5 = .ok (.invokestatic 44, 3) := by decide +kernel
theorem dX1_sung_8 : decode cX1_sung 8 = .ok (.ifCond .eq 7, 3) := by decide +kernel
theorem dX1_sung_11 : decode cX1_sung 11 = .ok (.iconst 0, 1) := by decide +kernel
theorem dX1_sung_12 : decode cX1_sung 12 = .ok (.goto 4, 3) := by decide +kernel
theorem dX1_sung_15 : decode cX1_sung 15 = .ok (.iconst 1, 1) := by decide +kernel
theorem dX1_sung_16 : decode cX1_sung 16 = .ok (.invokevirtual 79, 3) := by decide +kernel
theorem dX1_sung_19 : decode cX1_sung 19 = .ok (.ifCond .eq 12, 3) := by decide +kernel
theorem dX1_sung_22 : decode cX1_sung 22 = .ok (.aload_n 0, 1) := by decide +kernel
theorem dX1_sung_23 : decode cX1_sung 23 = .ok (.getfield 38, 3) := by decide +kernel
theorem dX1_sung_26 : decode cX1_sung 26 = .ok (.iload_n 1, 1) := by decide +kernel
theorem dX1_sung_27 : decode cX1_sung 27 = .ok (.iaload, 1) := by decide +kernel
theorem dX1_sung_28 : decode cX1_sung 28 = .ok (.goto 4, 3) := by decide +kernel
theorem dX1_sung_31 : decode cX1_sung 31 = .ok (.iconst 0, 1) := by decide +kernel
theorem dX1_sung_32 : decode cX1_sung 32 = .ok (.ireturn, 1) := by decide +kernel
set_option maxRecDepth 20000 in
theorem ggX1_inside_X1_stepWith : GoodIn wsX1_inside wsX1_stepWith := goodIn_r _ [5, 6, 7, 4, 8, 9, 10, 11, 12, 13, 14] (by decide +kernel) (by decide +kernel)
set_option maxRecDepth 20000 in
theorem gX1_inside_X1_stepWith : GoodIn wsX1_inside (va_wsS RX1 69 yX1_stepWith wsX1_stepWith) := goodIn_app (goodIn_of _ (by decide +kernel)) ggX1_inside_X1_stepWith
theorem dX1_inside_0 : decode cX1_inside 0 = .ok (.iconst 0, 1) := by decide +kernel
theorem dX1_inside_1 : decode cX1_inside 1 = .ok (.istore_n 3, 1) := by decide +kernel
theorem dX1_inside_2 : decode cX1_inside 2 = .ok (.iconst 0, 1) := by decide +kernel
theorem dX1_inside_3 : decode cX1_inside 3 = .ok (.istore 4, 2) := by decide +kernel
theorem dX1_inside_5 : decode cX1_inside 5 = .ok (.iload 4, 2) := by decide +kernel
theorem dX1_inside_7 : decode cX1_inside 7 = .ok (.bipush 12, 2) := by decide +kernel
theorem dX1_inside_9 : decode cX1_inside 9 = .ok (.if_icmp .ge 40, 3) := by decide +kernel
theorem dX1_inside_12 : decode cX1_inside 12 = .ok (.iload_n 3, 1) := by decide +kernel
theorem dX1_inside_13 : decode cX1_inside 13 = .ok (.iload_n 2, 1) := by decide +kernel
theorem dX1_inside_14 : decode cX1_inside 14 = .ok (.iload 4, 2) := by decide +kernel
theorem dX1_inside_16 : decode cX1_inside 16 = .ok (.iload_n 1, 1) := by decide +kernel
theorem dX1_inside_17 : decode cX1_inside 17 = .ok (.isub, 1) := by decide +kernel
theorem dX1_inside_18 : decode cX1_inside 18 = .ok (.bipush 12, 2) := by decide +kernel
theorem dX1_inside_20 : decode cX1_inside 20 = .ok (.iadd, 1) := by decide +kernel
theorem dX1_inside_21 : decode cX1_inside 21 = .ok (.bipush 12, 2) := by decide +kernel
theorem dX1_inside_23 : decode cX1_inside 23 = .ok (.irem, 1) := by decide +kernel
theorem dX1_inside_24 : decode cX1_inside 24 = .ok (.invokestatic 69, 3) := by decide +kernel
theorem dX1_inside_27 : decode cX1_inside 27 = .ok (.ifCond .lt 13, 3) := by decide +kernel
theorem dX1_inside_30 : decode cX1_inside 30 = .ok (.aload_n 0, 1) := by decide +kernel
theorem dX1_inside_31 : decode cX1_inside 31 = .ok (.getfield 38, 3) := by decide +kernel
theorem dX1_inside_34 : decode cX1_inside 34 = .ok (.iload 4, 2) := by decide +kernel
theorem dX1_inside_36 : decode cX1_inside 36 = .ok (.iaload, 1) := by decide +kernel
theorem dX1_inside_37 : decode cX1_inside 37 = .ok (.goto 4, 3) := by decide +kernel
theorem dX1_inside_40 : decode cX1_inside 40 = .ok (.iconst 0, 1) := by decide +kernel
theorem dX1_inside_41 : decode cX1_inside 41 = .ok (.iadd, 1) := by decide +kernel
theorem dX1_inside_42 : decode cX1_inside 42 = .ok (.istore_n 3, 1) := by decide +kernel
theorem dX1_inside_43 : decode cX1_inside 43 = .ok (.iinc 4 1, 3) := by decide +kernel
theorem dX1_inside_46 : decode cX1_inside 46 = .ok (.goto (-41), 3) := by decide +kernel
theorem dX1_inside_49 : decode cX1_inside 49 = .ok (.iload_n 3, 1) := by decide +kernel
theorem dX1_inside_50 : decode cX1_inside 50 = .ok (.ireturn, 1) := by decide +kernel
set_option maxRecDepth 20000 in
theorem ggX1_bestKey_X1_in : GoodIn wsX1_bestKey wsX1_in := goodIn_r _ [4] (by decide +kernel) (by decide +kernel)
set_option maxRecDepth 20000 in
theorem gX1_bestKey_X1_in : GoodIn wsX1_bestKey (va_wsS RX1 44 yX1_in wsX1_in) := goodIn_app (goodIn_of _ (by decide +kernel)) ggX1_bestKey_X1_in
set_option maxRecDepth 20000 in
theorem ggX1_bestKey_X1_holds : GoodIn wsX1_bestKey wsX1_holds := goodIn_r _ [8, 9, 27, 28, 29, 30, 31, 32, 33, 34, 35, 36, 37, 38, 39] (by decide +kernel) (by decide +kernel)
set_option maxRecDepth 20000 in
theorem gX1_bestKey_X1_holds : GoodIn wsX1_bestKey (wsV RX1 79 RX1 yX1_holds wsX1_holds) := goodIn_app (goodIn_of _ (by decide +kernel)) ggX1_bestKey_X1_holds
set_option maxRecDepth 20000 in
theorem ggX1_bestKey_X1_inside : GoodIn wsX1_bestKey wsX1_inside := goodIn_r _ [13, 14, 15, 16, 3, 17, 18, 19, 20, 21, 22, 23, 24, 25, 26, 27, 28, 29, 30, 31, 32, 33, 34, 35, 36, 37, 38, 39] (by decide +kernel) (by decide +kernel)
set_option maxRecDepth 20000 in
theorem gX1_bestKey_X1_inside : GoodIn wsX1_bestKey (wsV RX1 97 RX1 yX1_inside wsX1_inside) := goodIn_app (goodIn_of _ (by decide +kernel)) ggX1_bestKey_X1_inside
theorem dX1_bestKey_0 : decode cX1_bestKey 0 = .ok (.aload_n 0, 1) := by decide +kernel
theorem dX1_bestKey_1 : decode cX1_bestKey 1 = .ok (.iload_n 1, 1) := by decide +kernel
theorem dX1_bestKey_2 : decode cX1_bestKey 2 = .ok (.iconst 0, 1) := by decide +kernel
theorem dX1_bestKey_3 : decode cX1_bestKey 3 = .ok (.bipush 7, 2) := by decide +kernel
theorem dX1_bestKey_5 : decode cX1_bestKey 5 = .ok (.invokestatic 44, 3) := by decide +kernel
theorem dX1_bestKey_8 : decode cX1_bestKey 8 = .ok (.ifCond .eq 7, 3) := by decide +kernel
theorem dX1_bestKey_11 : decode cX1_bestKey 11 = .ok (.iconst 0, 1) := by decide +kernel
theorem dX1_bestKey_12 : decode cX1_bestKey 12 = .ok (.goto 4, 3) := by decide +kernel
theorem dX1_bestKey_15 : decode cX1_bestKey 15 = .ok (.iconst 1, 1) := by decide +kernel
theorem dX1_bestKey_16 : decode cX1_bestKey 16 = .ok (.invokevirtual 79, 3) := by decide +kernel
theorem dX1_bestKey_19 : decode cX1_bestKey 19 = .ok (.ifCond .ne 5, 3) := by decide +kernel
theorem dX1_bestKey_22 : decode cX1_bestKey 22 = .ok (.iconst 0, 1) := by decide +kernel
theorem dX1_bestKey_23 : decode cX1_bestKey 23 = .ok (.ireturn, 1) := by decide +kernel
theorem dX1_bestKey_24 : decode cX1_bestKey 24 = .ok (.iconst 0, 1) := by decide +kernel
theorem dX1_bestKey_25 : decode cX1_bestKey 25 = .ok (.istore_n 2, 1) := by decide +kernel
theorem dX1_bestKey_26 : decode cX1_bestKey 26 = .ok (.iconst 1, 1) := by decide +kernel
theorem dX1_bestKey_27 : decode cX1_bestKey 27 = .ok (.istore_n 3, 1) := by decide +kernel
theorem dX1_bestKey_28 : decode cX1_bestKey 28 = .ok (.iload_n 3, 1) := by decide +kernel
theorem dX1_bestKey_29 : decode cX1_bestKey 29 = .ok (.bipush 12, 2) := by decide +kernel
theorem dX1_bestKey_31 : decode cX1_bestKey 31 = .ok (.if_icmp .ge 30, 3) := by decide +kernel
theorem dX1_bestKey_34 : decode cX1_bestKey 34 = .ok (.aload_n 0, 1) := by decide +kernel
theorem dX1_bestKey_35 : decode cX1_bestKey 35 = .ok (.iload_n 3, 1) := by decide +kernel
theorem dX1_bestKey_36 : decode cX1_bestKey 36 = .ok (.iload_n 1, 1) := by decide +kernel
theorem dX1_bestKey_37 : decode cX1_bestKey 37 = .ok (.invokevirtual 97, 3) := by decide +kernel
theorem dX1_bestKey_40 : decode cX1_bestKey 40 = .ok (.aload_n 0, 1) := by decide +kernel
theorem dX1_bestKey_41 : decode cX1_bestKey 41 = .ok (.iload_n 2, 1) := by decide +kernel
theorem dX1_bestKey_42 : decode cX1_bestKey 42 = .ok (.iload_n 1, 1) := by decide +kernel
theorem dX1_bestKey_43 : decode cX1_bestKey 43 = .ok (.invokevirtual 97, 3) := by decide +kernel
theorem dX1_bestKey_46 : decode cX1_bestKey 46 = .ok (.if_icmp .le 7, 3) := by decide +kernel
theorem dX1_bestKey_49 : decode cX1_bestKey 49 = .ok (.iload_n 3, 1) := by decide +kernel
theorem dX1_bestKey_50 : decode cX1_bestKey 50 = .ok (.goto 4, 3) := by decide +kernel
theorem dX1_bestKey_53 : decode cX1_bestKey 53 = .ok (.iload_n 2, 1) := by decide +kernel
theorem dX1_bestKey_54 : decode cX1_bestKey 54 = .ok (.istore_n 2, 1) := by decide +kernel
theorem dX1_bestKey_55 : decode cX1_bestKey 55 = .ok (.iinc 3 1, 3) := by decide +kernel
theorem dX1_bestKey_58 : decode cX1_bestKey 58 = .ok (.goto (-30), 3) := by decide +kernel
theorem dX1_bestKey_61 : decode cX1_bestKey 61 = .ok (.iload_n 2, 1) := by decide +kernel
theorem dX1_bestKey_62 : decode cX1_bestKey 62 = .ok (.ireturn, 1) := by decide +kernel
set_option maxRecDepth 20000 in
theorem ggX1_within_X1_isScale : GoodIn wsX1_within wsX1_isScale := goodIn_r _ [4, 5, 6, 3, 7] (by decide +kernel) (by decide +kernel)
set_option maxRecDepth 20000 in
theorem gX1_within_X1_isScale : GoodIn wsX1_within (va_wsS RX1 75 yX1_isScale wsX1_isScale) := goodIn_app (goodIn_of _ (by decide +kernel)) ggX1_within_X1_isScale
set_option maxRecDepth 20000 in
theorem ggX1_within_X1_holds : GoodIn wsX1_within wsX1_holds := goodIn_r _ [11, 12, 30, 31, 32, 33, 34, 35, 36, 37, 38, 39, 40, 41, 42] (by decide +kernel) (by decide +kernel)
set_option maxRecDepth 20000 in
theorem gX1_within_X1_holds : GoodIn wsX1_within (wsV RX1 79 RX1 yX1_holds wsX1_holds) := goodIn_app (goodIn_of _ (by decide +kernel)) ggX1_within_X1_holds
set_option maxRecDepth 20000 in
theorem ggX1_within_X1_inside : GoodIn wsX1_within wsX1_inside := goodIn_r _ [16, 17, 18, 19, 3, 20, 21, 22, 23, 24, 25, 26, 27, 28, 29, 30, 31, 32, 33, 34, 35, 36, 37, 38, 39, 40, 41, 42] (by decide +kernel) (by decide +kernel)
set_option maxRecDepth 20000 in
theorem gX1_within_X1_inside : GoodIn wsX1_within (wsV RX1 97 RX1 yX1_inside wsX1_inside) := goodIn_app (goodIn_of _ (by decide +kernel)) ggX1_within_X1_inside
theorem dX1_within_0 : decode cX1_within 0 = .ok (.aload_n 0, 1) := by decide +kernel
theorem dX1_within_1 : decode cX1_within 1 = .ok (.iload_n 1, 1) := by decide +kernel
theorem dX1_within_2 : decode cX1_within 2 = .ok (.iload_n 2, 1) := by decide +kernel
theorem dX1_within_3 : decode cX1_within 3 = .ok (.invokestatic 75, 3) := by decide +kernel
theorem dX1_within_6 : decode cX1_within 6 = .ok (.ifCond .eq 7, 3) := by decide +kernel
theorem dX1_within_9 : decode cX1_within 9 = .ok (.iconst 0, 1) := by decide +kernel
theorem dX1_within_10 : decode cX1_within 10 = .ok (.goto 4, 3) := by decide +kernel
theorem dX1_within_13 : decode cX1_within 13 = .ok (.iconst 1, 1) := by decide +kernel
theorem dX1_within_14 : decode cX1_within 14 = .ok (.invokevirtual 79, 3) := by decide +kernel
theorem dX1_within_17 : decode cX1_within 17 = .ok (.ifCond .eq 12, 3) := by decide +kernel
theorem dX1_within_20 : decode cX1_within 20 = .ok (.aload_n 0, 1) := by decide +kernel
theorem dX1_within_21 : decode cX1_within 21 = .ok (.iload_n 1, 1) := by decide +kernel
theorem dX1_within_22 : decode cX1_within 22 = .ok (.iload_n 2, 1) := by decide +kernel
theorem dX1_within_23 : decode cX1_within 23 = .ok (.invokevirtual 97, 3) := by decide +kernel
theorem dX1_within_26 : decode cX1_within 26 = .ok (.goto 4, 3) := by decide +kernel
theorem dX1_within_29 : decode cX1_within 29 = .ok (.iconst 0, 1) := by decide +kernel
theorem dX1_within_30 : decode cX1_within 30 = .ok (.ireturn, 1) := by decide +kernel
theorem dX1_inOctaves_0 : decode cX1_inOctaves 0 = .ok (.aload_n 0, 1) := by decide +kernel
theorem dX1_inOctaves_1 : decode cX1_inOctaves 1 = .ok (.iconst 0, 1) := by decide +kernel
theorem dX1_inOctaves_2 : decode cX1_inOctaves 2 = .ok (.putfield 41, 3) := by decide +kernel
theorem dX1_inOctaves_5 : decode cX1_inOctaves 5 = .ok (.iconst 0, 1) := by decide +kernel
theorem dX1_inOctaves_6 : decode cX1_inOctaves 6 = .ok (.istore_n 1, 1) := by decide +kernel
theorem dX1_inOctaves_7 : decode cX1_inOctaves 7 = .ok (.iconst 0, 1) := by decide +kernel
theorem dX1_inOctaves_8 : decode cX1_inOctaves 8 = .ok (.istore_n 2, 1) := by decide +kernel
theorem dX1_inOctaves_9 : decode cX1_inOctaves 9 = .ok (.iload_n 2, 1) := by decide +kernel
theorem dX1_inOctaves_10 : decode cX1_inOctaves 10 = .ok (.iconst 4, 1) := by decide +kernel
theorem dX1_inOctaves_11 : decode cX1_inOctaves 11 = .ok (.if_icmp .ge 68, 3) := by decide +kernel
theorem dX1_inOctaves_14 : decode cX1_inOctaves 14 = .ok (.iconst 0, 1) := by decide +kernel
theorem dX1_inOctaves_15 : decode cX1_inOctaves 15 = .ok (.istore_n 3, 1) := by decide +kernel
theorem dX1_inOctaves_16 : decode cX1_inOctaves 16 = .ok (.iload_n 3, 1) := by decide +kernel
theorem dX1_inOctaves_17 : decode cX1_inOctaves 17 = .ok (.iload_n 2, 1) := by decide +kernel
theorem dX1_inOctaves_18 : decode cX1_inOctaves 18 = .ok (.if_icmp .ge 55, 3) := by decide +kernel
theorem dX1_inOctaves_21 : decode cX1_inOctaves 21 = .ok (.iload_n 1, 1) := by decide +kernel
theorem dX1_inOctaves_22 : decode cX1_inOctaves 22 = .ok (.aload_n 0, 1) := by decide +kernel
theorem dX1_inOctaves_23 : decode cX1_inOctaves 23 = .ok (.getfield 19, 3) := by decide +kernel
theorem dX1_inOctaves_26 : decode cX1_inOctaves 26 = .ok (.iload_n 2, 1) := by decide +kernel
theorem dX1_inOctaves_27 : decode cX1_inOctaves 27 = .ok (.iaload, 1) := by decide +kernel
theorem dX1_inOctaves_28 : decode cX1_inOctaves 28 = .ok (.ifCond .lt 36, 3) := by decide +kernel
theorem dX1_inOctaves_31 : decode cX1_inOctaves 31 = .ok (.aload_n 0, 1) := by decide +kernel
theorem dX1_inOctaves_32 : decode cX1_inOctaves 32 = .ok (.getfield 19, 3) := by decide +kernel
theorem dX1_inOctaves_35 : decode cX1_inOctaves 35 = .ok (.iload_n 3, 1) := by decide +kernel
theorem dX1_inOctaves_36 : decode cX1_inOctaves 36 = .ok (.iaload, 1) := by decide +kernel
theorem dX1_inOctaves_37 : decode cX1_inOctaves 37 = .ok (.ifCond .lt 27, 3) := by decide +kernel
theorem dX1_inOctaves_40 : decode cX1_inOctaves 40 = .ok (.aload_n 0, 1) := by decide +kernel
theorem dX1_inOctaves_41 : decode cX1_inOctaves 41 = .ok (.getfield 19, 3) := by decide +kernel
theorem dX1_inOctaves_44 : decode cX1_inOctaves 44 = .ok (.iload_n 2, 1) := by decide +kernel
theorem dX1_inOctaves_45 : decode cX1_inOctaves 45 = .ok (.iaload, 1) := by decide +kernel
theorem dX1_inOctaves_46 : decode cX1_inOctaves 46 = .ok (.aload_n 0, 1) := by decide +kernel
theorem dX1_inOctaves_47 : decode cX1_inOctaves 47 = .ok (.getfield 19, 3) := by decide +kernel
theorem dX1_inOctaves_50 : decode cX1_inOctaves 50 = .ok (.iload_n 3, 1) := by decide +kernel
theorem dX1_inOctaves_51 : decode cX1_inOctaves 51 = .ok (.iaload, 1) := by decide +kernel
theorem dX1_inOctaves_52 : decode cX1_inOctaves 52 = .ok (.isub, 1) := by decide +kernel
theorem dX1_inOctaves_53 : decode cX1_inOctaves 53 = .ok (.sipush 1200, 3) := by decide +kernel
theorem dX1_inOctaves_56 : decode cX1_inOctaves 56 = .ok (.irem, 1) := by decide +kernel
theorem dX1_inOctaves_57 : decode cX1_inOctaves 57 = .ok (.ifCond .ne 7, 3) := by decide +kernel
theorem dX1_inOctaves_60 : decode cX1_inOctaves 60 = .ok (.iconst 1, 1) := by decide +kernel
theorem dX1_inOctaves_61 : decode cX1_inOctaves 61 = .ok (.goto 4, 3) := by decide +kernel
theorem dX1_inOctaves_64 : decode cX1_inOctaves 64 = .ok (.iconst 0, 1) := by decide +kernel
theorem dX1_inOctaves_65 : decode cX1_inOctaves 65 = .ok (.iadd, 1) := by decide +kernel
theorem dX1_inOctaves_66 : decode cX1_inOctaves 66 = .ok (.istore_n 1, 1) := by decide +kernel
theorem dX1_inOctaves_67 : decode cX1_inOctaves 67 = .ok (.iinc 3 1, 3) := by decide +kernel
theorem dX1_inOctaves_70 : decode cX1_inOctaves 70 = .ok (.goto (-54), 3) := by decide +kernel
theorem dX1_inOctaves_73 : decode cX1_inOctaves 73 = .ok (.iinc 2 1, 3) := by decide +kernel
theorem dX1_inOctaves_76 : decode cX1_inOctaves 76 = .ok (.goto (-67), 3) := by decide +kernel
theorem dX1_inOctaves_79 : decode cX1_inOctaves 79 = .ok (.iload_n 1, 1) := by decide +kernel
theorem dX1_inOctaves_80 : decode cX1_inOctaves 80 = .ok (.ireturn, 1) := by decide +kernel
