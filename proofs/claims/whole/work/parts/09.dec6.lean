theorem dX5_allIn_0 : decode cX5_allIn 0 = .ok (.iconst 1, 1) := by decide +kernel
theorem dX5_allIn_1 : decode cX5_allIn 1 = .ok (.istore_n 3, 1) := by decide +kernel
theorem dX5_allIn_2 : decode cX5_allIn 2 = .ok (.iconst 1, 1) := by decide +kernel
theorem dX5_allIn_3 : decode cX5_allIn 3 = .ok (.istore 4, 2) := by decide +kernel
theorem dX5_allIn_5 : decode cX5_allIn 5 = .ok (.iload 4, 2) := by decide +kernel
theorem dX5_allIn_7 : decode cX5_allIn 7 = .ok (.aload_n 0, 1) := by decide +kernel
theorem dX5_allIn_8 : decode cX5_allIn 8 = .ok (.getfield 144, 3) := by decide +kernel
theorem dX5_allIn_11 : decode cX5_allIn 11 = .ok (.if_icmp .gt 60, 3) := by decide +kernel
theorem dX5_allIn_14 : decode cX5_allIn 14 = .ok (.iload_n 3, 1) := by decide +kernel
theorem dX5_allIn_15 : decode cX5_allIn 15 = .ok (.ifCond .eq 48, 3) := by decide +kernel
theorem dX5_allIn_18 : decode cX5_allIn 18 = .ok (.aload_n 0, 1) := by decide +kernel
theorem dX5_allIn_19 : decode cX5_allIn 19 = .ok (.getfield 59, 3) := by decide +kernel
theorem dX5_allIn_22 : decode cX5_allIn 22 = .ok (.iload 4, 2) := by decide +kernel
theorem dX5_allIn_24 : decode cX5_allIn 24 = .ok (.iaload, 1) := by decide +kernel
theorem dX5_allIn_25 : decode cX5_allIn 25 = .ok (.iload_n 1, 1) := by decide +kernel
theorem dX5_allIn_26 : decode cX5_allIn 26 = .ok (.if_icmp .ne 33, 3) := by decide +kernel
theorem dX5_allIn_29 : decode cX5_allIn 29 = .ok (.aload_n 0, 1) := by decide +kernel
theorem dX5_allIn_30 : decode cX5_allIn 30 = .ok (.getfield 50, 3) := by decide +kernel
theorem dX5_allIn_33 : decode cX5_allIn 33 = .ok (.iload 4, 2) := by decide +kernel
theorem dX5_allIn_35 : decode cX5_allIn 35 = .ok (.iaload, 1) := by decide +kernel
theorem dX5_allIn_36 : decode cX5_allIn 36 = .ok (.iload_n 2, 1) := by decide +kernel
theorem dX5_allIn_37 : decode cX5_allIn 37 = .ok (.if_icmp .ne 26, 3) := by decide +kernel
theorem dX5_allIn_40 : decode cX5_allIn 40 = .ok (.iload_n 2, 1) := by decide +kernel
theorem dX5_allIn_41 : decode cX5_allIn 41 = .ok (.iconst 2, 1) := by decide +kernel
theorem dX5_allIn_42 : decode cX5_allIn 42 = .ok (.if_icmp .ne 17, 3) := by decide +kernel
theorem dX5_allIn_45 : decode cX5_allIn 45 = .ok (.aload_n 0, 1) := by decide +kernel
theorem dX5_allIn_46 : decode cX5_allIn 46 = .ok (.aload_n 0, 1) := by decide +kernel
theorem dX5_allIn_47 : decode cX5_allIn 47 = .ok (.getfield 41, 3) := by decide +kernel
theorem dX5_allIn_50 : decode cX5_allIn 50 = .ok (.iload 4, 2) := by decide +kernel
theorem dX5_allIn_52 : decode cX5_allIn 52 = .ok (.iaload, 1) := by decide +kernel
theorem dX5_allIn_53 : decode cX5_allIn 53 = .ok (.invokevirtual 158, 3) := by decide +kernel
theorem dX5_allIn_56 : decode cX5_allIn 56 = .ok (.ifCond .eq 7, 3) := by decide +kernel
theorem dX5_allIn_59 : decode cX5_allIn 59 = .ok (.iconst 1, 1) := by decide +kernel
theorem dX5_allIn_60 : decode cX5_allIn 60 = .ok (.goto 4, 3) := by decide +kernel
theorem dX5_allIn_63 : decode cX5_allIn 63 = .ok (.iconst 0, 1) := by decide +kernel
theorem dX5_allIn_64 : decode cX5_allIn 64 = .ok (.istore_n 3, 1) := by decide +kernel
theorem dX5_allIn_65 : decode cX5_allIn 65 = .ok (.iinc 4 1, 3) := by decide +kernel
theorem dX5_allIn_68 : decode cX5_allIn 68 = .ok (.goto (-63), 3) := by decide +kernel
theorem dX5_allIn_71 : decode cX5_allIn 71 = .ok (.iload_n 3, 1) := by decide +kernel
theorem dX5_allIn_72 : decode cX5_allIn 72 = .ok (.ireturn, 1) := by decide +kernel
set_option maxRecDepth 20000 in
theorem ggX5_change_X5_allIn : GoodIn wsX5_change wsX5_allIn := goodIn_ca (goodIn_r _ [14, 8, 6, 5, 9, 15, 16, 17, 13, 18, 19, 20, 21, 22, 23, 24, 25, 26, 27, 28, 29, 30, 31, 32, 33, 34, 35, 36, 37, 38, 39, 40, 41, 42, 43, 44, 45, 46, 47, 48, 49, 50, 51, 52, 53, 54, 55, 56] (by decide +kernel) (by decide +kernel)) (goodIn_sub (fun _ h => List.mem_cons_of_mem _ (List.mem_append_right _ h)) (by decide +kernel))
set_option maxRecDepth 20000 in
theorem gX5_change_X5_allIn : GoodIn wsX5_change (wsV RX5 161 RX5 yX5_allIn wsX5_allIn) := goodIn_app (goodIn_of _ (by decide +kernel)) ggX5_change_X5_allIn
theorem dX5_change_0 : decode cX5_change 0 = .ok (.aload_n 0, 1) := by decide +kernel
theorem dX5_change_1 : decode cX5_change 1 = .ok (.getfield 19, 3) := by decide +kernel
theorem dX5_change_4 : decode cX5_change 4 = .ok (.iload_n 1, 1) := by decide +kernel
theorem dX5_change_5 : decode cX5_change 5 = .ok (.iaload, 1) := by decide +kernel
theorem dX5_change_6 : decode cX5_change 6 = .ok (.istore_n 2, 1) := by decide +kernel
theorem dX5_change_7 : decode cX5_change 7 = .ok (.aload_n 0, 1) := by decide +kernel
theorem dX5_change_8 : decode cX5_change 8 = .ok (.getfield 13, 3) := by decide +kernel
theorem dX5_change_11 : decode cX5_change 11 = .ok (.iload_n 1, 1) := by decide +kernel
theorem dX5_change_12 : decode cX5_change 12 = .ok (.iconst 1, 1) := by decide +kernel
theorem dX5_change_13 : decode cX5_change 13 = .ok (.aload_n 0, 1) := by decide +kernel
theorem dX5_change_14 : decode cX5_change 14 = .ok (.getfield 13, 3) := by decide +kernel
theorem dX5_change_17 : decode cX5_change 17 = .ok (.iload_n 1, 1) := by decide +kernel
theorem dX5_change_18 : decode cX5_change 18 = .ok (.iaload, 1) := by decide +kernel
theorem dX5_change_19 : decode cX5_change 19 = .ok (.isub, 1) := by decide +kernel
theorem dX5_change_20 : decode cX5_change 20 = .ok (.iastore, 1) := by decide +kernel
theorem dX5_change_21 : decode cX5_change 21 = .ok (.aload_n 0, 1) := by decide +kernel
theorem dX5_change_22 : decode cX5_change 22 = .ok (.getfield 16, 3) := by decide +kernel
theorem dX5_change_25 : decode cX5_change 25 = .ok (.iload_n 1, 1) := by decide +kernel
theorem dX5_change_26 : decode cX5_change 26 = .ok (.aload_n 0, 1) := by decide +kernel
theorem dX5_change_27 : decode cX5_change 27 = .ok (.getfield 35, 3) := by decide +kernel
theorem dX5_change_30 : decode cX5_change 30 = .ok (.iconst 2, 1) := by decide +kernel
theorem dX5_change_31 : decode cX5_change 31 = .ok (.iload_n 1, 1) := by decide +kernel
theorem dX5_change_32 : decode cX5_change 32 = .ok (.imul, 1) := by decide +kernel
theorem dX5_change_33 : decode cX5_change 33 = .ok (.aload_n 0, 1) := by decide +kernel
theorem dX5_change_34 : decode cX5_change 34 = .ok (.getfield 13, 3) := by decide +kernel
theorem dX5_change_37 : decode cX5_change 37 = .ok (.iload_n 1, 1) := by decide +kernel
theorem dX5_change_38 : decode cX5_change 38 = .ok (.iaload, 1) := by decide +kernel
theorem dX5_change_39 : decode cX5_change 39 = .ok (.iadd, 1) := by decide +kernel
theorem dX5_change_40 : decode cX5_change 40 = .ok (.iaload, 1) := by decide +kernel
theorem dX5_change_41 : decode cX5_change 41 = .ok (.iastore, 1) := by decide +kernel
theorem dX5_change_42 : decode cX5_change 42 = .ok (.aload_n 0, 1) := by decide +kernel
theorem dX5_change_43 : decode cX5_change 43 = .ok (.getfield 50, 3) := by decide +kernel
theorem dX5_change_46 : decode cX5_change 46 = .ok (.iload_n 2, 1) := by decide +kernel
theorem dX5_change_47 : decode cX5_change 47 = .ok (.iconst 3, 1) := by decide +kernel
theorem dX5_change_48 : decode cX5_change 48 = .ok (.iastore, 1) := by decide +kernel
theorem dX5_change_49 : decode cX5_change 49 = .ok (.aload_n 0, 1) := by decide +kernel
theorem dX5_change_50 : decode cX5_change 50 = .ok (.aload_n 0, 1) := by decide +kernel
theorem dX5_change_51 : decode cX5_change 51 = .ok (.getfield 59, 3) := by decide +kernel
theorem dX5_change_54 : decode cX5_change 54 = .ok (.iload_n 2, 1) := by decide +kernel
theorem dX5_change_55 : decode cX5_change 55 = .ok (.iaload, 1) := by decide +kernel
theorem dX5_change_56 : decode cX5_change 56 = .ok (.iconst 3, 1) := by decide +kernel
theorem dX5_change_57 : decode cX5_change 57 = .ok (.invokevirtual 161, 3) := by decide +kernel
theorem dX5_change_60 : decode cX5_change 60 = .ok (.ifCond .ne 4, 3) := by decide +kernel
theorem dX5_change_63 : decode cX5_change 63 = .ok (.return_, 1) := by decide +kernel
theorem dX5_change_64 : decode cX5_change 64 = .ok (.aload_n 0, 1) := by decide +kernel
theorem dX5_change_65 : decode cX5_change 65 = .ok (.aload_n 0, 1) := by decide +kernel
theorem dX5_change_66 : decode cX5_change 66 = .ok (.getfield 59, 3) := by decide +kernel
theorem dX5_change_69 : decode cX5_change 69 = .ok (.iload_n 2, 1) := by decide +kernel
theorem dX5_change_70 : decode cX5_change 70 = .ok (.iaload, 1) := by decide +kernel
theorem dX5_change_71 : decode cX5_change 71 = .ok (.putfield 165, 3) := by decide +kernel
theorem dX5_change_74 : decode cX5_change 74 = .ok (.iconst 1, 1) := by decide +kernel
theorem dX5_change_75 : decode cX5_change 75 = .ok (.istore_n 3, 1) := by decide +kernel
theorem dX5_change_76 : decode cX5_change 76 = .ok (.iload_n 3, 1) := by decide +kernel
theorem dX5_change_77 : decode cX5_change 77 = .ok (.aload_n 0, 1) := by decide +kernel
theorem dX5_change_78 : decode cX5_change 78 = .ok (.getfield 144, 3) := by decide +kernel
theorem dX5_change_81 : decode cX5_change 81 = .ok (.if_icmp .gt 34, 3) := by decide +kernel
theorem dX5_change_84 : decode cX5_change 84 = .ok (.aload_n 0, 1) := by decide +kernel
theorem dX5_change_85 : decode cX5_change 85 = .ok (.getfield 59, 3) := by decide +kernel
theorem dX5_change_88 : decode cX5_change 88 = .ok (.iload_n 3, 1) := by decide +kernel
theorem dX5_change_89 : decode cX5_change 89 = .ok (.iaload, 1) := by decide +kernel
theorem dX5_change_90 : decode cX5_change 90 = .ok (.aload_n 0, 1) := by decide +kernel
theorem dX5_change_91 : decode cX5_change 91 = .ok (.getfield 165, 3) := by decide +kernel
theorem dX5_change_94 : decode cX5_change 94 = .ok (.if_icmp .ne 15, 3) := by decide +kernel
theorem dX5_change_97 : decode cX5_change 97 = .ok (.aload_n 0, 1) := by decide +kernel
theorem dX5_change_98 : decode cX5_change 98 = .ok (.getfield 19, 3) := by decide +kernel
theorem dX5_change_101 : decode cX5_change 101 = .ok (.aload_n 0, 1) := by decide +kernel
theorem dX5_change_102 : decode cX5_change 102 = .ok (.getfield 41, 3) := by decide +kernel
theorem dX5_change_105 : decode cX5_change 105 = .ok (.iload_n 3, 1) := by decide +kernel
theorem dX5_change_106 : decode cX5_change 106 = .ok (.iaload, 1) := by decide +kernel
theorem dX5_change_107 : decode cX5_change 107 = .ok (.iconst 0, 1) := by decide +kernel
theorem dX5_change_108 : decode cX5_change 108 = .ok (.iastore, 1) := by decide +kernel
theorem dX5_change_109 : decode cX5_change 109 = .ok (.iinc 3 1, 3) := by decide +kernel
theorem dX5_change_112 : decode cX5_change 112 = .ok (.goto (-36), 3) := by decide +kernel
theorem dX5_change_115 : decode cX5_change 115 = .ok (.return_, 1) := by decide +kernel
set_option maxRecDepth 20000 in
theorem ggX5_step_X5_none : GoodIn wsX5_step wsX5_none := goodIn_r _ [8, 9, 10, 54, 55, 56, 57, 58, 59, 60, 61, 62, 63, 64, 65, 66, 67, 68, 69, 70, 71, 72, 73, 74, 75, 76, 77, 78, 79, 80, 81, 82, 83, 84, 85, 86, 87, 88, 89] (by decide +kernel) (by decide +kernel)
set_option maxRecDepth 20000 in
theorem gX5_step_X5_none : GoodIn wsX5_step (wsV RX5 136 RX5 yX5_none wsX5_none) := goodIn_app (goodIn_of _ (by decide +kernel)) ggX5_step_X5_none
set_option maxRecDepth 20000 in
theorem ggX5_step_X5_there : GoodIn wsX5_step wsX5_there := goodIn_ca (goodIn_r _ [14, 15, 16, 54, 55, 56, 57, 58, 59, 60, 61, 62, 63, 64, 65, 66, 67, 68, 69, 70, 71, 72, 73, 74, 75, 76, 77, 78, 79, 80, 81, 82, 83, 84, 85, 86, 87, 88, 89] (by decide +kernel) (by decide +kernel)) (goodIn_sub (fun _ h => List.mem_cons_of_mem _ (List.mem_append_right _ h)) (by decide +kernel))
set_option maxRecDepth 20000 in
theorem gX5_step_X5_there : GoodIn wsX5_step (wsV RX5 158 RX5 yX5_there wsX5_there) := goodIn_app (goodIn_of _ (by decide +kernel)) ggX5_step_X5_there
set_option maxRecDepth 20000 in
theorem ggX5_step_X5_stateOf : GoodIn wsX5_step wsX5_stateOf := goodIn_ca (goodIn_r _ [20, 1, 21, 54, 55, 56, 57, 58, 59, 60, 61, 62, 63, 64, 65, 66, 67, 68, 69, 70, 71, 72, 73, 74, 75, 76, 77, 78, 79, 80, 81, 82, 83, 84, 85, 86, 87, 88, 89] (by decide +kernel) (by decide +kernel)) (goodIn_sub (fun _ h => List.mem_cons_of_mem _ (List.mem_append_right _ h)) (by decide +kernel))
set_option maxRecDepth 20000 in
theorem gX5_step_X5_stateOf : GoodIn wsX5_step (wsV RX5 140 RX5 yX5_stateOf wsX5_stateOf) := goodIn_app (goodIn_of _ (by decide +kernel)) ggX5_step_X5_stateOf
set_option maxRecDepth 20000 in
theorem ggX5_step_X5_hold : GoodIn wsX5_step wsX5_hold := goodIn_r _ [25, 26, 27, 54, 55, 56, 57, 58, 59, 60, 61, 62, 63, 64, 65, 66, 67, 68, 69, 70, 71, 72, 73, 74, 75, 76, 77, 78, 79, 80, 81, 82, 83, 84, 85, 86, 87, 88, 89] (by decide +kernel) (by decide +kernel)
set_option maxRecDepth 20000 in
theorem gX5_step_X5_hold : GoodIn wsX5_step (wsV RX5 154 RX5 yX5_hold wsX5_hold) := goodIn_app (goodIn_of _ (by decide +kernel)) ggX5_step_X5_hold
set_option maxRecDepth 20000 in
theorem ggX5_step_X5_write : GoodIn wsX5_step wsX5_write := goodIn_ca (goodIn_r _ [31, 1, 32, 33, 34, 35, 36, 37, 38, 39, 40, 21, 41, 54, 55, 56, 57, 58, 59, 60, 61, 62, 63, 64, 65, 66, 67, 68, 69, 70, 71, 72, 73, 74, 75, 76, 77, 78, 79, 80, 81, 82, 83, 84, 85, 86, 87, 88, 89] (by decide +kernel) (by decide +kernel)) (goodIn_sub (fun _ h => List.mem_cons_of_mem _ (List.mem_append_right _ h)) (by decide +kernel))
set_option maxRecDepth 20000 in
theorem gX5_step_X5_write : GoodIn wsX5_step (wsV RX5 168 RX5 yX5_write wsX5_write) := goodIn_app (goodIn_of _ (by decide +kernel)) ggX5_step_X5_write
set_option maxRecDepth 20000 in
theorem ggX5_step_X5_change : GoodIn wsX5_step wsX5_change := goodIn_ca (goodIn_r _ [45, 1, 32, 46, 39, 21, 3, 47, 48, 49, 50, 51, 52, 7, 53, 11, 12, 13, 14, 15, 16, 54, 55, 56, 57, 58, 59, 60, 61, 62, 63, 64, 65, 66, 67, 68, 69, 70, 71, 72, 73, 74, 75, 76, 77, 78, 79, 80, 81, 82, 83, 84, 85, 86, 87, 88, 89] (by decide +kernel) (by decide +kernel)) (goodIn_sub (fun _ h => List.mem_cons_of_mem _ (List.mem_append_right _ h)) (by decide +kernel))
set_option maxRecDepth 20000 in
theorem gX5_step_X5_change : GoodIn wsX5_step (wsV RX5 171 RX5 yX5_change wsX5_change) := goodIn_app (goodIn_of _ (by decide +kernel)) ggX5_step_X5_change
set_option maxRecDepth 20000 in
theorem ggX5_step_X5_allIn : GoodIn wsX5_step wsX5_allIn := goodIn_ca (goodIn_r _ [53, 48, 3, 21, 49, 11, 12, 13, 7, 14, 15, 16, 54, 55, 56, 57, 58, 59, 60, 61, 62, 63, 64, 65, 66, 67, 68, 69, 70, 71, 72, 73, 74, 75, 76, 77, 78, 79, 80, 81, 82, 83, 84, 85, 86, 87, 88, 89] (by decide +kernel) (by decide +kernel)) (goodIn_sub (fun _ h => List.mem_cons_of_mem _ (List.mem_append_right _ h)) (by decide +kernel))
set_option maxRecDepth 20000 in
theorem gX5_step_X5_allIn : GoodIn wsX5_step (wsV RX5 161 RX5 yX5_allIn wsX5_allIn) := goodIn_app (goodIn_of _ (by decide +kernel)) ggX5_step_X5_allIn
theorem dX5_step_0 : decode cX5_step 0 = .ok (.aload_n 0, 1) := by decide +kernel
theorem dX5_step_1 : decode cX5_step 1 = .ok (.iload_n 1, 1) := by decide +kernel
theorem dX5_step_2 : decode cX5_step 2 = .ok (.invokevirtual 136, 3) := by decide +kernel
theorem dX5_step_5 : decode cX5_step 5 = .ok (.ifCond .eq 5, 3) := by decide +kernel
theorem dX5_step_8 : decode cX5_step 8 = .ok (.iconst (-1), 1) := by decide +kernel
theorem dX5_step_9 : decode cX5_step 9 = .ok (.ireturn, 1) := by decide +kernel
theorem dX5_step_10 : decode cX5_step 10 = .ok (.aload_n 0, 1) := by decide +kernel
theorem dX5_step_11 : decode cX5_step 11 = .ok (.iload_n 1, 1) := by decide +kernel
theorem dX5_step_12 : decode cX5_step 12 = .ok (.invokevirtual 158, 3) := by decide +kernel
theorem dX5_step_15 : decode cX5_step 15 = .ok (.ifCond .ne 6, 3) := by decide +kernel
theorem dX5_step_18 : decode cX5_step 18 = .ok (.bipush (-3), 2) := by decide +kernel
theorem dX5_step_20 : decode cX5_step 20 = .ok (.ireturn, 1) := by decide +kernel
theorem dX5_step_21 : decode cX5_step 21 = .ok (.aload_n 0, 1) := by decide +kernel
theorem dX5_step_22 : decode cX5_step 22 = .ok (.getfield 19, 3) := by decide +kernel
theorem dX5_step_25 : decode cX5_step 25 = .ok (.iload_n 1, 1) := by decide +kernel
theorem dX5_step_26 : decode cX5_step 26 = .ok (.iaload, 1) := by decide +kernel
theorem dX5_step_27 : decode cX5_step 27 = .ok (.istore_n 2, 1) := by decide +kernel
theorem dX5_step_28 : decode cX5_step 28 = .ok (.aload_n 0, 1) := by decide +kernel
theorem dX5_step_29 : decode cX5_step 29 = .ok (.iload_n 1, 1) := by decide +kernel
theorem dX5_step_30 : decode cX5_step 30 = .ok (.invokevirtual 140, 3) := by decide +kernel
theorem dX5_step_33 : decode cX5_step 33 = .ok (.iconst 1, 1) := by decide +kernel
theorem dX5_step_34 : decode cX5_step 34 = .ok (.if_icmp .ne 18, 3) := by decide +kernel
theorem dX5_step_37 : decode cX5_step 37 = .ok (.aload_n 0, 1) := by decide +kernel
theorem dX5_step_38 : decode cX5_step 38 = .ok (.invokevirtual 154, 3) := by decide +kernel
theorem dX5_step_41 : decode cX5_step 41 = .ok (.ifCond .eq 11, 3) := by decide +kernel
theorem dX5_step_44 : decode cX5_step 44 = .ok (.aload_n 0, 1) := by decide +kernel
theorem dX5_step_45 : decode cX5_step 45 = .ok (.iload_n 1, 1) := by decide +kernel
theorem dX5_step_46 : decode cX5_step 46 = .ok (.invokevirtual 168, 3) := by decide +kernel
theorem dX5_step_49 : decode cX5_step 49 = .ok (.goto 79, 3) := by decide +kernel
theorem dX5_step_52 : decode cX5_step 52 = .ok (.aload_n 0, 1) := by decide +kernel
theorem dX5_step_53 : decode cX5_step 53 = .ok (.iload_n 1, 1) := by decide +kernel
theorem dX5_step_54 : decode cX5_step 54 = .ok (.invokevirtual 140, 3) := by decide +kernel
theorem dX5_step_57 : decode cX5_step 57 = .ok (.iconst 2, 1) := by decide +kernel
theorem dX5_step_58 : decode cX5_step 58 = .ok (.if_icmp .ne 24, 3) := by decide +kernel
theorem dX5_step_61 : decode cX5_step 61 = .ok (.aload_n 0, 1) := by decide +kernel
theorem dX5_step_62 : decode cX5_step 62 = .ok (.getfield 62, 3) := by decide +kernel
theorem dX5_step_65 : decode cX5_step 65 = .ok (.aload_n 0, 1) := by decide +kernel
theorem dX5_step_66 : decode cX5_step 66 = .ok (.getfield 59, 3) := by decide +kernel
theorem dX5_step_69 : decode cX5_step 69 = .ok (.iload_n 2, 1) := by decide +kernel
theorem dX5_step_70 : decode cX5_step 70 = .ok (.iaload, 1) := by decide +kernel
theorem dX5_step_71 : decode cX5_step 71 = .ok (.baload, 1) := by decide +kernel
theorem dX5_step_72 : decode cX5_step 72 = .ok (.ifCond .eq 10, 3) := by decide +kernel
theorem dX5_step_75 : decode cX5_step 75 = .ok (.aload_n 0, 1) := by decide +kernel
theorem dX5_step_76 : decode cX5_step 76 = .ok (.iload_n 1, 1) := by decide +kernel
theorem dX5_step_77 : decode cX5_step 77 = .ok (.invokevirtual 171, 3) := by decide +kernel
theorem dX5_step_80 : decode cX5_step 80 = .ok (.iconst 3, 1) := by decide +kernel
theorem dX5_step_81 : decode cX5_step 81 = .ok (.ireturn, 1) := by decide +kernel
theorem dX5_step_82 : decode cX5_step 82 = .ok (.aload_n 0, 1) := by decide +kernel
theorem dX5_step_83 : decode cX5_step 83 = .ok (.iload_n 1, 1) := by decide +kernel
theorem dX5_step_84 : decode cX5_step 84 = .ok (.invokevirtual 140, 3) := by decide +kernel
theorem dX5_step_87 : decode cX5_step 87 = .ok (.iconst 2, 1) := by decide +kernel
theorem dX5_step_88 : decode cX5_step 88 = .ok (.if_icmp .ne 40, 3) := by decide +kernel
theorem dX5_step_91 : decode cX5_step 91 = .ok (.aload_n 0, 1) := by decide +kernel
theorem dX5_step_92 : decode cX5_step 92 = .ok (.getfield 62, 3) := by decide +kernel
theorem dX5_step_95 : decode cX5_step 95 = .ok (.aload_n 0, 1) := by decide +kernel
theorem dX5_step_96 : decode cX5_step 96 = .ok (.getfield 59, 3) := by decide +kernel
theorem dX5_step_99 : decode cX5_step 99 = .ok (.iload_n 2, 1) := by decide +kernel
theorem dX5_step_100 : decode cX5_step 100 = .ok (.iaload, 1) := by decide +kernel
theorem dX5_step_101 : decode cX5_step 101 = .ok (.aload_n 0, 1) := by decide +kernel
theorem dX5_step_102 : decode cX5_step 102 = .ok (.invokevirtual 154, 3) := by decide +kernel
theorem dX5_step_105 : decode cX5_step 105 = .ok (.ifCond .eq 21, 3) := by decide +kernel
theorem dX5_step_108 : decode cX5_step 108 = .ok (.aload_n 0, 1) := by decide +kernel
theorem dX5_step_109 : decode cX5_step 109 = .ok (.aload_n 0, 1) := by decide +kernel
theorem dX5_step_110 : decode cX5_step 110 = .ok (.getfield 59, 3) := by decide +kernel
theorem dX5_step_113 : decode cX5_step 113 = .ok (.iload_n 2, 1) := by decide +kernel
theorem dX5_step_114 : decode cX5_step 114 = .ok (.iaload, 1) := by decide +kernel
theorem dX5_step_115 : decode cX5_step 115 = .ok (.iconst 2, 1) := by decide +kernel
theorem dX5_step_116 : decode cX5_step 116 = .ok (.invokevirtual 161, 3) := by decide +kernel
theorem dX5_step_119 : decode cX5_step 119 = .ok (.ifCond .eq 7, 3) := by decide +kernel
theorem dX5_step_122 : decode cX5_step 122 = .ok (.iconst 1, 1) := by decide +kernel
theorem dX5_step_123 : decode cX5_step 123 = .ok (.goto 4, 3) := by decide +kernel
theorem dX5_step_126 : decode cX5_step 126 = .ok (.iconst 0, 1) := by decide +kernel
theorem dX5_step_127 : decode cX5_step 127 = .ok (.bastore, 1) := by decide +kernel
theorem dX5_step_128 : decode cX5_step 128 = .ok (.aload_n 0, 1) := by decide +kernel
theorem dX5_step_129 : decode cX5_step 129 = .ok (.iload_n 1, 1) := by decide +kernel
theorem dX5_step_130 : decode cX5_step 130 = .ok (.invokevirtual 140, 3) := by decide +kernel
theorem dX5_step_133 : decode cX5_step 133 = .ok (.ireturn, 1) := by decide +kernel
set_option maxRecDepth 20000 in
theorem ggX5_cut_X5_stateOf : GoodIn wsX5_cut wsX5_stateOf := goodIn_ca (goodIn_r _ [10, 5, 11, 12, 13, 14, 15, 16, 17, 18, 19, 20, 21, 22, 23, 24, 25, 26, 27, 28, 29, 30, 31, 32, 33, 34, 35, 36, 37, 38, 39, 40, 41, 42, 43, 44, 45, 46, 47] (by decide +kernel) (by decide +kernel)) (goodIn_sub (fun _ h => List.mem_cons_of_mem _ (List.mem_append_right _ h)) (by decide +kernel))
set_option maxRecDepth 20000 in
theorem gX5_cut_X5_stateOf : GoodIn wsX5_cut (wsV RX5 140 RX5 yX5_stateOf wsX5_stateOf) := goodIn_app (goodIn_of _ (by decide +kernel)) ggX5_cut_X5_stateOf
theorem dX5_cut_0 : decode cX5_cut 0 = .ok (.aload_n 0, 1) := by decide +kernel
theorem dX5_cut_1 : decode cX5_cut 1 = .ok (.iconst 0, 1) := by decide +kernel
theorem dX5_cut_2 : decode cX5_cut 2 = .ok (.putfield 99, 3) := by decide +kernel
theorem dX5_cut_5 : decode cX5_cut 5 = .ok (.iconst 0, 1) := by decide +kernel
theorem dX5_cut_6 : decode cX5_cut 6 = .ok (.istore_n 1, 1) := by decide +kernel
theorem dX5_cut_7 : decode cX5_cut 7 = .ok (.iconst 1, 1) := by decide +kernel
theorem dX5_cut_8 : decode cX5_cut 8 = .ok (.istore_n 2, 1) := by decide +kernel
theorem dX5_cut_9 : decode cX5_cut 9 = .ok (.iload_n 2, 1) := by decide +kernel
theorem dX5_cut_10 : decode cX5_cut 10 = .ok (.aload_n 0, 1) := by decide +kernel
theorem dX5_cut_11 : decode cX5_cut 11 = .ok (.getfield 123, 3) := by decide +kernel
theorem dX5_cut_14 : decode cX5_cut 14 = .ok (.if_icmp .gt 71, 3) := by decide +kernel
theorem dX5_cut_17 : decode cX5_cut 17 = .ok (.aload_n 0, 1) := by decide +kernel
theorem dX5_cut_18 : decode cX5_cut 18 = .ok (.getfield 22, 3) := by decide +kernel
theorem dX5_cut_21 : decode cX5_cut 21 = .ok (.iload_n 2, 1) := by decide +kernel
theorem dX5_cut_22 : decode cX5_cut 22 = .ok (.baload, 1) := by decide +kernel
theorem dX5_cut_23 : decode cX5_cut 23 = .ok (.ifCond .eq 7, 3) := by decide +kernel
theorem dX5_cut_26 : decode cX5_cut 26 = .ok (.iload_n 1, 1) := by decide +kernel
theorem dX5_cut_27 : decode cX5_cut 27 = .ok (.goto 6, 3) := by decide +kernel
theorem dX5_cut_30 : decode cX5_cut 30 = .ok (.iload_n 1, 1) := by decide +kernel
theorem dX5_cut_31 : decode cX5_cut 31 = .ok (.iconst 1, 1) := by decide +kernel
theorem dX5_cut_32 : decode cX5_cut 32 = .ok (.iadd, 1) := by decide +kernel
theorem dX5_cut_33 : decode cX5_cut 33 = .ok (.istore_n 1, 1) := by decide +kernel
theorem dX5_cut_34 : decode cX5_cut 34 = .ok (.aload_n 0, 1) := by decide +kernel
theorem dX5_cut_35 : decode cX5_cut 35 = .ok (.getfield 22, 3) := by decide +kernel
theorem dX5_cut_38 : decode cX5_cut 38 = .ok (.iload_n 2, 1) := by decide +kernel
theorem dX5_cut_39 : decode cX5_cut 39 = .ok (.iconst 1, 1) := by decide +kernel
theorem dX5_cut_40 : decode cX5_cut 40 = .ok (.bastore, 1) := by decide +kernel
theorem dX5_cut_41 : decode cX5_cut 41 = .ok (.aload_n 0, 1) := by decide +kernel
theorem dX5_cut_42 : decode cX5_cut 42 = .ok (.iload_n 2, 1) := by decide +kernel
theorem dX5_cut_43 : decode cX5_cut 43 = .ok (.invokevirtual 140, 3) := by decide +kernel
theorem dX5_cut_46 : decode cX5_cut 46 = .ok (.iconst 1, 1) := by decide +kernel
theorem dX5_cut_47 : decode cX5_cut 47 = .ok (.if_icmp .ne 32, 3) := by decide +kernel
theorem dX5_cut_50 : decode cX5_cut 50 = .ok (.aload_n 0, 1) := by decide +kernel
theorem dX5_cut_51 : decode cX5_cut 51 = .ok (.getfield 53, 3) := by decide +kernel
theorem dX5_cut_54 : decode cX5_cut 54 = .ok (.aload_n 0, 1) := by decide +kernel
theorem dX5_cut_55 : decode cX5_cut 55 = .ok (.getfield 19, 3) := by decide +kernel
theorem dX5_cut_58 : decode cX5_cut 58 = .ok (.iload_n 2, 1) := by decide +kernel
theorem dX5_cut_59 : decode cX5_cut 59 = .ok (.iaload, 1) := by decide +kernel
theorem dX5_cut_60 : decode cX5_cut 60 = .ok (.iaload, 1) := by decide +kernel
theorem dX5_cut_61 : decode cX5_cut 61 = .ok (.ifCond .le 18, 3) := by decide +kernel
theorem dX5_cut_64 : decode cX5_cut 64 = .ok (.aload_n 0, 1) := by decide +kernel
theorem dX5_cut_65 : decode cX5_cut 65 = .ok (.getfield 53, 3) := by decide +kernel
theorem dX5_cut_68 : decode cX5_cut 68 = .ok (.aload_n 0, 1) := by decide +kernel
theorem dX5_cut_69 : decode cX5_cut 69 = .ok (.getfield 19, 3) := by decide +kernel
theorem dX5_cut_72 : decode cX5_cut 72 = .ok (.iload_n 2, 1) := by decide +kernel
theorem dX5_cut_73 : decode cX5_cut 73 = .ok (.iaload, 1) := by decide +kernel
theorem dX5_cut_74 : decode cX5_cut 74 = .ok (.dup2, 1) := by decide +kernel
theorem dX5_cut_75 : decode cX5_cut 75 = .ok (.iaload, 1) := by decide +kernel
theorem dX5_cut_76 : decode cX5_cut 76 = .ok (.iconst 1, 1) := by decide +kernel
theorem dX5_cut_77 : decode cX5_cut 77 = .ok (.isub, 1) := by decide +kernel
theorem dX5_cut_78 : decode cX5_cut 78 = .ok (.iastore, 1) := by decide +kernel
theorem dX5_cut_79 : decode cX5_cut 79 = .ok (.iinc 2 1, 3) := by decide +kernel
theorem dX5_cut_82 : decode cX5_cut 82 = .ok (.goto (-73), 3) := by decide +kernel
theorem dX5_cut_85 : decode cX5_cut 85 = .ok (.iload_n 1, 1) := by decide +kernel
theorem dX5_cut_86 : decode cX5_cut 86 = .ok (.ireturn, 1) := by decide +kernel
set_option maxRecDepth 20000 in
theorem ggX5_boot_X5_none : GoodIn wsX5_boot wsX5_none := goodIn_r _ [11, 12, 13, 36, 37, 38, 39, 40, 41, 42, 43, 44, 45, 46, 47, 48, 49, 50, 51, 52, 53, 54, 55, 56, 57, 58, 59, 60, 61, 62, 63, 64, 65, 66, 67, 68, 69, 70, 71] (by decide +kernel) (by decide +kernel)
set_option maxRecDepth 20000 in
theorem gX5_boot_X5_none : GoodIn wsX5_boot (wsV RX5 136 RX5 yX5_none wsX5_none) := goodIn_app (goodIn_of _ (by decide +kernel)) ggX5_boot_X5_none
set_option maxRecDepth 20000 in
theorem ggX5_boot_X5_stateOf : GoodIn wsX5_boot wsX5_stateOf := goodIn_ca (goodIn_r _ [17, 4, 18, 36, 37, 38, 39, 40, 41, 42, 43, 44, 45, 46, 47, 48, 49, 50, 51, 52, 53, 54, 55, 56, 57, 58, 59, 60, 61, 62, 63, 64, 65, 66, 67, 68, 69, 70, 71] (by decide +kernel) (by decide +kernel)) (goodIn_sub (fun _ h => List.mem_cons_of_mem _ (List.mem_append_right _ h)) (by decide +kernel))
set_option maxRecDepth 20000 in
theorem gX5_boot_X5_stateOf : GoodIn wsX5_boot (wsV RX5 140 RX5 yX5_stateOf wsX5_stateOf) := goodIn_app (goodIn_of _ (by decide +kernel)) ggX5_boot_X5_stateOf
set_option maxRecDepth 20000 in
theorem ggX5_boot_X5_change : GoodIn wsX5_boot wsX5_change := goodIn_ca (goodIn_r _ [22, 4, 6, 23, 5, 18, 3, 24, 25, 26, 27, 28, 29, 10, 30, 31, 32, 33, 34, 1, 35, 36, 37, 38, 39, 40, 41, 42, 43, 44, 45, 46, 47, 48, 49, 50, 51, 52, 53, 54, 55, 56, 57, 58, 59, 60, 61, 62, 63, 64, 65, 66, 67, 68, 69, 70, 71] (by decide +kernel) (by decide +kernel)) (goodIn_sub (fun _ h => List.mem_cons_of_mem _ (List.mem_append_right _ h)) (by decide +kernel))
set_option maxRecDepth 20000 in
theorem gX5_boot_X5_change : GoodIn wsX5_boot (wsV RX5 171 RX5 yX5_change wsX5_change) := goodIn_app (goodIn_of _ (by decide +kernel)) ggX5_boot_X5_change
theorem dX5_boot_0 : decode cX5_boot 0 = .ok (.aload_n 0, 1) := by decide +kernel
theorem dX5_boot_1 : decode cX5_boot 1 = .ok (.iload_n 1, 1) := by decide +kernel
theorem dX5_boot_2 : decode cX5_boot 2 = .ok (.invokevirtual 136, 3) := by decide +kernel
theorem dX5_boot_5 : decode cX5_boot 5 = .ok (.ifCond .eq 5, 3) := by decide +kernel
theorem dX5_boot_8 : decode cX5_boot 8 = .ok (.iconst (-1), 1) := by decide +kernel
theorem dX5_boot_9 : decode cX5_boot 9 = .ok (.ireturn, 1) := by decide +kernel
theorem dX5_boot_10 : decode cX5_boot 10 = .ok (.aload_n 0, 1) := by decide +kernel
theorem dX5_boot_11 : decode cX5_boot 11 = .ok (.getfield 22, 3) := by decide +kernel
theorem dX5_boot_14 : decode cX5_boot 14 = .ok (.iload_n 1, 1) := by decide +kernel
theorem dX5_boot_15 : decode cX5_boot 15 = .ok (.baload, 1) := by decide +kernel
theorem dX5_boot_16 : decode cX5_boot 16 = .ok (.istore_n 2, 1) := by decide +kernel
theorem dX5_boot_17 : decode cX5_boot 17 = .ok (.aload_n 0, 1) := by decide +kernel
theorem dX5_boot_18 : decode cX5_boot 18 = .ok (.getfield 22, 3) := by decide +kernel
theorem dX5_boot_21 : decode cX5_boot 21 = .ok (.iload_n 1, 1) := by decide +kernel
theorem dX5_boot_22 : decode cX5_boot 22 = .ok (.iconst 0, 1) := by decide +kernel
theorem dX5_boot_23 : decode cX5_boot 23 = .ok (.bastore, 1) := by decide +kernel
theorem dX5_boot_24 : decode cX5_boot 24 = .ok (.iload_n 2, 1) := by decide +kernel
theorem dX5_boot_25 : decode cX5_boot 25 = .ok (.ifCond .eq 36, 3) := by decide +kernel
theorem dX5_boot_28 : decode cX5_boot 28 = .ok (.aload_n 0, 1) := by decide +kernel
theorem dX5_boot_29 : decode cX5_boot 29 = .ok (.iload_n 1, 1) := by decide +kernel
theorem dX5_boot_30 : decode cX5_boot 30 = .ok (.invokevirtual 140, 3) := by decide +kernel
theorem dX5_boot_33 : decode cX5_boot 33 = .ok (.iconst 2, 1) := by decide +kernel
theorem dX5_boot_34 : decode cX5_boot 34 = .ok (.if_icmp .ne 27, 3) := by decide +kernel
theorem dX5_boot_37 : decode cX5_boot 37 = .ok (.aload_n 0, 1) := by decide +kernel
theorem dX5_boot_38 : decode cX5_boot 38 = .ok (.getfield 62, 3) := by decide +kernel
theorem dX5_boot_41 : decode cX5_boot 41 = .ok (.aload_n 0, 1) := by decide +kernel
theorem dX5_boot_42 : decode cX5_boot 42 = .ok (.getfield 59, 3) := by decide +kernel
theorem dX5_boot_45 : decode cX5_boot 45 = .ok (.aload_n 0, 1) := by decide +kernel
theorem dX5_boot_46 : decode cX5_boot 46 = .ok (.getfield 19, 3) := by decide +kernel
theorem dX5_boot_49 : decode cX5_boot 49 = .ok (.iload_n 1, 1) := by decide +kernel
theorem dX5_boot_50 : decode cX5_boot 50 = .ok (.iaload, 1) := by decide +kernel
theorem dX5_boot_51 : decode cX5_boot 51 = .ok (.iaload, 1) := by decide +kernel
theorem dX5_boot_52 : decode cX5_boot 52 = .ok (.baload, 1) := by decide +kernel
theorem dX5_boot_53 : decode cX5_boot 53 = .ok (.ifCond .eq 8, 3) := by decide +kernel
theorem dX5_boot_56 : decode cX5_boot 56 = .ok (.aload_n 0, 1) := by decide +kernel
theorem dX5_boot_57 : decode cX5_boot 57 = .ok (.iload_n 1, 1) := by decide +kernel
theorem dX5_boot_58 : decode cX5_boot 58 = .ok (.invokevirtual 171, 3) := by decide +kernel
theorem dX5_boot_61 : decode cX5_boot 61 = .ok (.aload_n 0, 1) := by decide +kernel
theorem dX5_boot_62 : decode cX5_boot 62 = .ok (.getfield 35, 3) := by decide +kernel
theorem dX5_boot_65 : decode cX5_boot 65 = .ok (.iconst 2, 1) := by decide +kernel
theorem dX5_boot_66 : decode cX5_boot 66 = .ok (.iload_n 1, 1) := by decide +kernel
theorem dX5_boot_67 : decode cX5_boot 67 = .ok (.imul, 1) := by decide +kernel
theorem dX5_boot_68 : decode cX5_boot 68 = .ok (.aload_n 0, 1) := by decide +kernel
theorem dX5_boot_69 : decode cX5_boot 69 = .ok (.getfield 13, 3) := by decide +kernel
theorem dX5_boot_72 : decode cX5_boot 72 = .ok (.iload_n 1, 1) := by decide +kernel
theorem dX5_boot_73 : decode cX5_boot 73 = .ok (.iaload, 1) := by decide +kernel
theorem dX5_boot_74 : decode cX5_boot 74 = .ok (.iadd, 1) := by decide +kernel
theorem dX5_boot_75 : decode cX5_boot 75 = .ok (.iaload, 1) := by decide +kernel
theorem dX5_boot_76 : decode cX5_boot 76 = .ok (.ireturn, 1) := by decide +kernel
set_option maxRecDepth 20000 in
theorem ggX5_bank_X5_none : GoodIn wsX5_bank wsX5_none := goodIn_r _ [8, 2, 9, 10, 11, 12, 13, 14, 15, 16, 17, 18, 19, 20, 21, 22, 23, 24, 25, 26, 27, 28, 29, 30, 31, 32, 33, 34, 35, 36, 37, 38, 39, 40, 41, 42, 43, 44, 45] (by decide +kernel) (by decide +kernel)
set_option maxRecDepth 20000 in
theorem gX5_bank_X5_none : GoodIn wsX5_bank (wsV RX5 136 RX5 yX5_none wsX5_none) := goodIn_app (goodIn_of _ (by decide +kernel)) ggX5_bank_X5_none
theorem dX5_bank_0 : decode cX5_bank 0 = .ok (.aload_n 0, 1) := by decide +kernel
theorem dX5_bank_1 : decode cX5_bank 1 = .ok (.iload_n 1, 1) := by decide +kernel
theorem dX5_bank_2 : decode cX5_bank 2 = .ok (.invokevirtual 136, 3) := by decide +kernel
theorem dX5_bank_5 : decode cX5_bank 5 = .ok (.ifCond .eq 5, 3) := by decide +kernel
theorem dX5_bank_8 : decode cX5_bank 8 = .ok (.iconst 0, 1) := by decide +kernel
theorem dX5_bank_9 : decode cX5_bank 9 = .ok (.ireturn, 1) := by decide +kernel
theorem dX5_bank_10 : decode cX5_bank 10 = .ok (.aload_n 0, 1) := by decide +kernel
theorem dX5_bank_11 : decode cX5_bank 11 = .ok (.iload_n 2, 1) := by decide +kernel
theorem dX5_bank_12 : decode cX5_bank 12 = .ok (.ifCond .lt 22, 3) := by decide +kernel
theorem dX5_bank_15 : decode cX5_bank 15 = .ok (.iload_n 2, 1) := by decide +kernel
theorem dX5_bank_16 : decode cX5_bank 16 = .ok (.iconst 1, 1) := by decide +kernel
theorem dX5_bank_17 : decode cX5_bank 17 = .ok (.if_icmp .gt 17, 3) := by decide +kernel
theorem dX5_bank_20 : decode cX5_bank 20 = .ok (.lload_n 3, 1) := by decide +kernel
theorem dX5_bank_21 : decode cX5_bank 21 = .ok (.lconst 0, 1) := by decide +kernel
theorem dX5_bank_22 : decode cX5_bank 22 = .ok (.lcmp, 1) := by decide +kernel
theorem dX5_bank_23 : decode cX5_bank 23 = .ok (.ifCond .lt 11, 3) := by decide +kernel
theorem dX5_bank_26 : decode cX5_bank 26 = .ok (.lload_n 3, 1) := by decide +kernel
theorem dX5_bank_27 : decode cX5_bank 27 = .ok (.ldc2_w 174, 3) := by decide +kernel
theorem dX5_bank_30 : decode cX5_bank 30 = .ok (.lcmp, 1) := by decide +kernel
theorem dX5_bank_31 : decode cX5_bank 31 = .ok (.ifCond .le 7, 3) := by decide +kernel
theorem dX5_bank_34 : decode cX5_bank 34 = .ok (.iconst 1, 1) := by decide +kernel
theorem dX5_bank_35 : decode cX5_bank 35 = .ok (.goto 4, 3) := by decide +kernel
theorem dX5_bank_38 : decode cX5_bank 38 = .ok (.iconst 0, 1) := by decide +kernel
theorem dX5_bank_39 : decode cX5_bank 39 = .ok (.putfield 99, 3) := by decide +kernel
theorem dX5_bank_42 : decode cX5_bank 42 = .ok (.aload_n 0, 1) := by decide +kernel
theorem dX5_bank_43 : decode cX5_bank 43 = .ok (.getfield 99, 3) := by decide +kernel
theorem dX5_bank_46 : decode cX5_bank 46 = .ok (.ifCond .le 7, 3) := by decide +kernel
theorem dX5_bank_49 : decode cX5_bank 49 = .ok (.iconst 0, 1) := by decide +kernel
theorem dX5_bank_50 : decode cX5_bank 50 = .ok (.goto 23, 3) := by decide +kernel
theorem dX5_bank_53 : decode cX5_bank 53 = .ok (.aload_n 0, 1) := by decide +kernel
theorem dX5_bank_54 : decode cX5_bank 54 = .ok (.getfield 38, 3) := by decide +kernel
theorem dX5_bank_57 : decode cX5_bank 57 = .ok (.sipush 512, 3) := by decide +kernel
theorem dX5_bank_60 : decode cX5_bank 60 = .ok (.iload_n 1, 1) := by decide +kernel
theorem dX5_bank_61 : decode cX5_bank 61 = .ok (.imul, 1) := by decide +kernel
theorem dX5_bank_62 : decode cX5_bank 62 = .ok (.sipush 256, 3) := by decide +kernel
theorem dX5_bank_65 : decode cX5_bank 65 = .ok (.iload_n 2, 1) := by decide +kernel
theorem dX5_bank_66 : decode cX5_bank 66 = .ok (.imul, 1) := by decide +kernel
theorem dX5_bank_67 : decode cX5_bank 67 = .ok (.iadd, 1) := by decide +kernel
theorem dX5_bank_68 : decode cX5_bank 68 = .ok (.lload_n 3, 1) := by decide +kernel
theorem dX5_bank_69 : decode cX5_bank 69 = .ok (.l2i, 1) := by decide +kernel
theorem dX5_bank_70 : decode cX5_bank 70 = .ok (.iadd, 1) := by decide +kernel
theorem dX5_bank_71 : decode cX5_bank 71 = .ok (.iaload, 1) := by decide +kernel
theorem dX5_bank_72 : decode cX5_bank 72 = .ok (.i2b, 1) := by decide +kernel
theorem dX5_bank_73 : decode cX5_bank 73 = .ok (.ireturn, 1) := by decide +kernel
theorem dX5_joint_0 : decode cX5_joint 0 = .ok (.aload_n 0, 1) := by decide +kernel
theorem dX5_joint_1 : decode cX5_joint 1 = .ok (.iconst 0, 1) := by decide +kernel
theorem dX5_joint_2 : decode cX5_joint 2 = .ok (.putfield 99, 3) := by decide +kernel
theorem dX5_joint_5 : decode cX5_joint 5 = .ok (.aload_n 0, 1) := by decide +kernel
theorem dX5_joint_6 : decode cX5_joint 6 = .ok (.getfield 165, 3) := by decide +kernel
theorem dX5_joint_9 : decode cX5_joint 9 = .ok (.ifCond .le 7, 3) := by decide +kernel
theorem dX5_joint_12 : decode cX5_joint 12 = .ok (.iconst 1, 1) := by decide +kernel
theorem dX5_joint_13 : decode cX5_joint 13 = .ok (.goto 4, 3) := by decide +kernel
theorem dX5_joint_16 : decode cX5_joint 16 = .ok (.iconst 0, 1) := by decide +kernel
theorem dX5_joint_17 : decode cX5_joint 17 = .ok (.istore_n 1, 1) := by decide +kernel
theorem dX5_joint_18 : decode cX5_joint 18 = .ok (.iconst 1, 1) := by decide +kernel
theorem dX5_joint_19 : decode cX5_joint 19 = .ok (.istore_n 2, 1) := by decide +kernel
theorem dX5_joint_20 : decode cX5_joint 20 = .ok (.iload_n 2, 1) := by decide +kernel
theorem dX5_joint_21 : decode cX5_joint 21 = .ok (.aload_n 0, 1) := by decide +kernel
theorem dX5_joint_22 : decode cX5_joint 22 = .ok (.getfield 144, 3) := by decide +kernel
theorem dX5_joint_25 : decode cX5_joint 25 = .ok (.if_icmp .gt 52, 3) := by decide +kernel
theorem dX5_joint_28 : decode cX5_joint 28 = .ok (.iload_n 1, 1) := by decide +kernel
theorem dX5_joint_29 : decode cX5_joint 29 = .ok (.ifCond .eq 40, 3) := by decide +kernel
theorem dX5_joint_32 : decode cX5_joint 32 = .ok (.aload_n 0, 1) := by decide +kernel
theorem dX5_joint_33 : decode cX5_joint 33 = .ok (.getfield 59, 3) := by decide +kernel
theorem dX5_joint_36 : decode cX5_joint 36 = .ok (.iload_n 2, 1) := by decide +kernel
theorem dX5_joint_37 : decode cX5_joint 37 = .ok (.iaload, 1) := by decide +kernel
theorem dX5_joint_38 : decode cX5_joint 38 = .ok (.aload_n 0, 1) := by decide +kernel
theorem dX5_joint_39 : decode cX5_joint 39 = .ok (.getfield 165, 3) := by decide +kernel
theorem dX5_joint_42 : decode cX5_joint 42 = .ok (.if_icmp .ne 23, 3) := by decide +kernel
theorem dX5_joint_45 : decode cX5_joint 45 = .ok (.aload_n 0, 1) := by decide +kernel
theorem dX5_joint_46 : decode cX5_joint 46 = .ok (.getfield 13, 3) := by decide +kernel
theorem dX5_joint_49 : decode cX5_joint 49 = .ok (.aload_n 0, 1) := by decide +kernel
theorem dX5_joint_50 : decode cX5_joint 50 = .ok (.getfield 41, 3) := by decide +kernel
theorem dX5_joint_53 : decode cX5_joint 53 = .ok (.iload_n 2, 1) := by decide +kernel
theorem dX5_joint_54 : decode cX5_joint 54 = .ok (.iaload, 1) := by decide +kernel
theorem dX5_joint_55 : decode cX5_joint 55 = .ok (.iaload, 1) := by decide +kernel
theorem dX5_joint_56 : decode cX5_joint 56 = .ok (.aload_n 0, 1) := by decide +kernel
theorem dX5_joint_57 : decode cX5_joint 57 = .ok (.getfield 56, 3) := by decide +kernel
theorem dX5_joint_60 : decode cX5_joint 60 = .ok (.iload_n 2, 1) := by decide +kernel
theorem dX5_joint_61 : decode cX5_joint 61 = .ok (.iaload, 1) := by decide +kernel
theorem dX5_joint_62 : decode cX5_joint 62 = .ok (.if_icmp .ne 7, 3) := by decide +kernel
theorem dX5_joint_65 : decode cX5_joint 65 = .ok (.iconst 1, 1) := by decide +kernel
theorem dX5_joint_66 : decode cX5_joint 66 = .ok (.goto 4, 3) := by decide +kernel
theorem dX5_joint_69 : decode cX5_joint 69 = .ok (.iconst 0, 1) := by decide +kernel
theorem dX5_joint_70 : decode cX5_joint 70 = .ok (.istore_n 1, 1) := by decide +kernel
theorem dX5_joint_71 : decode cX5_joint 71 = .ok (.iinc 2 1, 3) := by decide +kernel
theorem dX5_joint_74 : decode cX5_joint 74 = .ok (.goto (-54), 3) := by decide +kernel
theorem dX5_joint_77 : decode cX5_joint 77 = .ok (.iload_n 1, 1) := by decide +kernel
theorem dX5_joint_78 : decode cX5_joint 78 = .ok (.ifCond .eq 7, 3) := by decide +kernel
theorem dX5_joint_81 : decode cX5_joint 81 = .ok (.iconst 1, 1) := by decide +kernel
theorem dX5_joint_82 : decode cX5_joint 82 = .ok (.goto 4, 3) := by decide +kernel
theorem dX5_joint_85 : decode cX5_joint 85 = .ok (.iconst 0, 1) := by decide +kernel
theorem dX5_joint_86 : decode cX5_joint 86 = .ok (.ireturn, 1) := by decide +kernel
set_option maxRecDepth 20000 in
theorem ggX5_rollback_X5_there : GoodIn wsX5_rollback wsX5_there := goodIn_ca (goodIn_r _ [14, 15, 16, 17, 18, 19, 20, 21, 22, 23, 24, 25, 26, 27, 28, 29, 30, 31, 32, 33, 34, 35, 36, 37, 38, 39, 40, 41, 42, 43, 44, 45, 46, 47, 48, 49, 50, 51, 52] (by decide +kernel) (by decide +kernel)) (goodIn_sub (fun _ h => List.mem_cons_of_mem _ (List.mem_append_right _ h)) (by decide +kernel))
set_option maxRecDepth 20000 in
theorem gX5_rollback_X5_there : GoodIn wsX5_rollback (wsV RX5 158 RX5 yX5_there wsX5_there) := goodIn_app (goodIn_of _ (by decide +kernel)) ggX5_rollback_X5_there
theorem dX5_rollback_0 : decode cX5_rollback 0 = .ok (.aload_n 0, 1) := by decide +kernel
theorem dX5_rollback_1 : decode cX5_rollback 1 = .ok (.iconst 0, 1) := by decide +kernel
theorem dX5_rollback_2 : decode cX5_rollback 2 = .ok (.putfield 99, 3) := by decide +kernel
theorem dX5_rollback_5 : decode cX5_rollback 5 = .ok (.aload_n 0, 1) := by decide +kernel
theorem dX5_rollback_6 : decode cX5_rollback 6 = .ok (.getfield 165, 3) := by decide +kernel
theorem dX5_rollback_9 : decode cX5_rollback 9 = .ok (.ifCond .le 7, 3) := by decide +kernel
theorem dX5_rollback_12 : decode cX5_rollback 12 = .ok (.iconst 1, 1) := by decide +kernel
theorem dX5_rollback_13 : decode cX5_rollback 13 = .ok (.goto 4, 3) := by decide +kernel
theorem dX5_rollback_16 : decode cX5_rollback 16 = .ok (.iconst 0, 1) := by decide +kernel
theorem dX5_rollback_17 : decode cX5_rollback 17 = .ok (.istore_n 1, 1) := by decide +kernel
theorem dX5_rollback_18 : decode cX5_rollback 18 = .ok (.iconst 1, 1) := by decide +kernel
theorem dX5_rollback_19 : decode cX5_rollback 19 = .ok (.istore_n 2, 1) := by decide +kernel
theorem dX5_rollback_20 : decode cX5_rollback 20 = .ok (.iload_n 2, 1) := by decide +kernel
theorem dX5_rollback_21 : decode cX5_rollback 21 = .ok (.aload_n 0, 1) := by decide +kernel
theorem dX5_rollback_22 : decode cX5_rollback 22 = .ok (.getfield 144, 3) := by decide +kernel
theorem dX5_rollback_25 : decode cX5_rollback 25 = .ok (.if_icmp .gt 59, 3) := by decide +kernel
theorem dX5_rollback_28 : decode cX5_rollback 28 = .ok (.iload_n 1, 1) := by decide +kernel
theorem dX5_rollback_29 : decode cX5_rollback 29 = .ok (.ifCond .eq 47, 3) := by decide +kernel
theorem dX5_rollback_32 : decode cX5_rollback 32 = .ok (.aload_n 0, 1) := by decide +kernel
theorem dX5_rollback_33 : decode cX5_rollback 33 = .ok (.getfield 59, 3) := by decide +kernel
theorem dX5_rollback_36 : decode cX5_rollback 36 = .ok (.iload_n 2, 1) := by decide +kernel
theorem dX5_rollback_37 : decode cX5_rollback 37 = .ok (.iaload, 1) := by decide +kernel
theorem dX5_rollback_38 : decode cX5_rollback 38 = .ok (.aload_n 0, 1) := by decide +kernel
theorem dX5_rollback_39 : decode cX5_rollback 39 = .ok (.getfield 165, 3) := by decide +kernel
theorem dX5_rollback_42 : decode cX5_rollback 42 = .ok (.if_icmp .ne 30, 3) := by decide +kernel
theorem dX5_rollback_45 : decode cX5_rollback 45 = .ok (.aload_n 0, 1) := by decide +kernel
theorem dX5_rollback_46 : decode cX5_rollback 46 = .ok (.aload_n 0, 1) := by decide +kernel
theorem dX5_rollback_47 : decode cX5_rollback 47 = .ok (.getfield 41, 3) := by decide +kernel
theorem dX5_rollback_50 : decode cX5_rollback 50 = .ok (.iload_n 2, 1) := by decide +kernel
theorem dX5_rollback_51 : decode cX5_rollback 51 = .ok (.iaload, 1) := by decide +kernel
theorem dX5_rollback_52 : decode cX5_rollback 52 = .ok (.invokevirtual 158, 3) := by decide +kernel
theorem dX5_rollback_55 : decode cX5_rollback 55 = .ok (.ifCond .eq 21, 3) := by decide +kernel
theorem dX5_rollback_58 : decode cX5_rollback 58 = .ok (.aload_n 0, 1) := by decide +kernel
theorem dX5_rollback_59 : decode cX5_rollback 59 = .ok (.getfield 19, 3) := by decide +kernel
theorem dX5_rollback_62 : decode cX5_rollback 62 = .ok (.aload_n 0, 1) := by decide +kernel
theorem dX5_rollback_63 : decode cX5_rollback 63 = .ok (.getfield 41, 3) := by decide +kernel
theorem dX5_rollback_66 : decode cX5_rollback 66 = .ok (.iload_n 2, 1) := by decide +kernel
theorem dX5_rollback_67 : decode cX5_rollback 67 = .ok (.iaload, 1) := by decide +kernel
theorem dX5_rollback_68 : decode cX5_rollback 68 = .ok (.iaload, 1) := by decide +kernel
theorem dX5_rollback_69 : decode cX5_rollback 69 = .ok (.ifCond .gt 7, 3) := by decide +kernel
theorem dX5_rollback_72 : decode cX5_rollback 72 = .ok (.iconst 1, 1) := by decide +kernel
theorem dX5_rollback_73 : decode cX5_rollback 73 = .ok (.goto 4, 3) := by decide +kernel
theorem dX5_rollback_76 : decode cX5_rollback 76 = .ok (.iconst 0, 1) := by decide +kernel
theorem dX5_rollback_77 : decode cX5_rollback 77 = .ok (.istore_n 1, 1) := by decide +kernel
theorem dX5_rollback_78 : decode cX5_rollback 78 = .ok (.iinc 2 1, 3) := by decide +kernel
theorem dX5_rollback_81 : decode cX5_rollback 81 = .ok (.goto (-61), 3) := by decide +kernel
theorem dX5_rollback_84 : decode cX5_rollback 84 = .ok (.iload_n 1, 1) := by decide +kernel
theorem dX5_rollback_85 : decode cX5_rollback 85 = .ok (.ifCond .ne 5, 3) := by decide +kernel
theorem dX5_rollback_88 : decode cX5_rollback 88 = .ok (.iconst 0, 1) := by decide +kernel
theorem dX5_rollback_89 : decode cX5_rollback 89 = .ok (.ireturn, 1) := by decide +kernel
theorem dX5_rollback_90 : decode cX5_rollback 90 = .ok (.iconst 1, 1) := by decide +kernel
theorem dX5_rollback_91 : decode cX5_rollback 91 = .ok (.istore_n 2, 1) := by decide +kernel
theorem dX5_rollback_92 : decode cX5_rollback 92 = .ok (.iload_n 2, 1) := by decide +kernel
theorem dX5_rollback_93 : decode cX5_rollback 93 = .ok (.aload_n 0, 1) := by decide +kernel
theorem dX5_rollback_94 : decode cX5_rollback 94 = .ok (.getfield 144, 3) := by decide +kernel
theorem dX5_rollback_97 : decode cX5_rollback 97 = .ok (.if_icmp .gt 67, 3) := by decide +kernel
theorem dX5_rollback_100 : decode cX5_rollback 100 = .ok (.aload_n 0, 1) := by decide +kernel
theorem dX5_rollback_101 : decode cX5_rollback 101 = .ok (.getfield 41, 3) := by decide +kernel
theorem dX5_rollback_104 : decode cX5_rollback 104 = .ok (.iload_n 2, 1) := by decide +kernel
theorem dX5_rollback_105 : decode cX5_rollback 105 = .ok (.iaload, 1) := by decide +kernel
theorem dX5_rollback_106 : decode cX5_rollback 106 = .ok (.istore_n 3, 1) := by decide +kernel
theorem dX5_rollback_107 : decode cX5_rollback 107 = .ok (.aload_n 0, 1) := by decide +kernel
theorem dX5_rollback_108 : decode cX5_rollback 108 = .ok (.getfield 59, 3) := by decide +kernel
theorem dX5_rollback_111 : decode cX5_rollback 111 = .ok (.iload_n 2, 1) := by decide +kernel
theorem dX5_rollback_112 : decode cX5_rollback 112 = .ok (.iaload, 1) := by decide +kernel
theorem dX5_rollback_113 : decode cX5_rollback 113 = .ok (.aload_n 0, 1) := by decide +kernel
theorem dX5_rollback_114 : decode cX5_rollback 114 = .ok (.getfield 165, 3) := by decide +kernel
theorem dX5_rollback_117 : decode cX5_rollback 117 = .ok (.if_icmp .eq 6, 3) := by decide +kernel
theorem dX5_rollback_120 : decode cX5_rollback 120 = .ok (.goto 38, 3) := by decide +kernel
theorem dX5_rollback_123 : decode cX5_rollback 123 = .ok (.aload_n 0, 1) := by decide +kernel
theorem dX5_rollback_124 : decode cX5_rollback 124 = .ok (.getfield 13, 3) := by decide +kernel
theorem dX5_rollback_127 : decode cX5_rollback 127 = .ok (.iload_n 3, 1) := by decide +kernel
theorem dX5_rollback_128 : decode cX5_rollback 128 = .ok (.iconst 1, 1) := by decide +kernel
theorem dX5_rollback_129 : decode cX5_rollback 129 = .ok (.aload_n 0, 1) := by decide +kernel
theorem dX5_rollback_130 : decode cX5_rollback 130 = .ok (.getfield 13, 3) := by decide +kernel
theorem dX5_rollback_133 : decode cX5_rollback 133 = .ok (.iload_n 3, 1) := by decide +kernel
theorem dX5_rollback_134 : decode cX5_rollback 134 = .ok (.iaload, 1) := by decide +kernel
theorem dX5_rollback_135 : decode cX5_rollback 135 = .ok (.isub, 1) := by decide +kernel
theorem dX5_rollback_136 : decode cX5_rollback 136 = .ok (.iastore, 1) := by decide +kernel
theorem dX5_rollback_137 : decode cX5_rollback 137 = .ok (.aload_n 0, 1) := by decide +kernel
theorem dX5_rollback_138 : decode cX5_rollback 138 = .ok (.getfield 16, 3) := by decide +kernel
theorem dX5_rollback_141 : decode cX5_rollback 141 = .ok (.iload_n 3, 1) := by decide +kernel
theorem dX5_rollback_142 : decode cX5_rollback 142 = .ok (.aload_n 0, 1) := by decide +kernel
theorem dX5_rollback_143 : decode cX5_rollback 143 = .ok (.getfield 35, 3) := by decide +kernel
theorem dX5_rollback_146 : decode cX5_rollback 146 = .ok (.iconst 2, 1) := by decide +kernel
theorem dX5_rollback_147 : decode cX5_rollback 147 = .ok (.iload_n 3, 1) := by decide +kernel
theorem dX5_rollback_148 : decode cX5_rollback 148 = .ok (.imul, 1) := by decide +kernel
theorem dX5_rollback_149 : decode cX5_rollback 149 = .ok (.aload_n 0, 1) := by decide +kernel
theorem dX5_rollback_150 : decode cX5_rollback 150 = .ok (.getfield 13, 3) := by decide +kernel
theorem dX5_rollback_153 : decode cX5_rollback 153 = .ok (.iload_n 3, 1) := by decide +kernel
theorem dX5_rollback_154 : decode cX5_rollback 154 = .ok (.iaload, 1) := by decide +kernel
theorem dX5_rollback_155 : decode cX5_rollback 155 = .ok (.iadd, 1) := by decide +kernel
theorem dX5_rollback_156 : decode cX5_rollback 156 = .ok (.iaload, 1) := by decide +kernel
theorem dX5_rollback_157 : decode cX5_rollback 157 = .ok (.iastore, 1) := by decide +kernel
theorem dX5_rollback_158 : decode cX5_rollback 158 = .ok (.iinc 2 1, 3) := by decide +kernel
theorem dX5_rollback_161 : decode cX5_rollback 161 = .ok (.goto (-69), 3) := by decide +kernel
theorem dX5_rollback_164 : decode cX5_rollback 164 = .ok (.aload_n 0, 1) := by decide +kernel
theorem dX5_rollback_165 : decode cX5_rollback 165 = .ok (.iconst 0, 1) := by decide +kernel
theorem dX5_rollback_166 : decode cX5_rollback 166 = .ok (.putfield 165, 3) := by decide +kernel
theorem dX5_rollback_169 : decode cX5_rollback 169 = .ok (.iconst 1, 1) := by decide +kernel
theorem dX5_rollback_170 : decode cX5_rollback 170 = .ok (.ireturn, 1) := by decide +kernel
set_option maxRecDepth 20000 in
theorem ggX5_silent_X5_none : GoodIn wsX5_silent wsX5_none := goodIn_r _ [6, 7, 8, 9, 10, 11, 12, 13, 14, 15, 16, 17, 18, 19, 20, 21, 22, 23, 24, 25, 26, 27, 28, 29, 30, 31, 32, 33, 34, 35, 36, 37, 38, 39, 40, 41, 42, 43, 44] (by decide +kernel) (by decide +kernel)
set_option maxRecDepth 20000 in
theorem gX5_silent_X5_none : GoodIn wsX5_silent (wsV RX5 136 RX5 yX5_none wsX5_none) := goodIn_app (goodIn_of _ (by decide +kernel)) ggX5_silent_X5_none
theorem dX5_silent_0 : decode cX5_silent 0 = .ok (.aload_n 0, 1) := by decide +kernel
theorem dX5_silent_1 : decode cX5_silent 1 = .ok (.iload_n 1, 1) := by decide +kernel
theorem dX5_silent_2 : decode cX5_silent 2 = .ok (.invokevirtual 136, 3) := by decide +kernel
theorem dX5_silent_5 : decode cX5_silent 5 = .ok (.ifCond .eq 5, 3) := by decide +kernel
theorem dX5_silent_8 : decode cX5_silent 8 = .ok (.iconst (-1), 1) := by decide +kernel
theorem dX5_silent_9 : decode cX5_silent 9 = .ok (.ireturn, 1) := by decide +kernel
theorem dX5_silent_10 : decode cX5_silent 10 = .ok (.aload_n 0, 1) := by decide +kernel
theorem dX5_silent_11 : decode cX5_silent 11 = .ok (.getfield 26, 3) := by decide +kernel
theorem dX5_silent_14 : decode cX5_silent 14 = .ok (.iload_n 1, 1) := by decide +kernel
theorem dX5_silent_15 : decode cX5_silent 15 = .ok (.baload, 1) := by decide +kernel
theorem dX5_silent_16 : decode cX5_silent 16 = .ok (.istore_n 3, 1) := by decide +kernel
theorem dX5_silent_17 : decode cX5_silent 17 = .ok (.aload_n 0, 1) := by decide +kernel
theorem dX5_silent_18 : decode cX5_silent 18 = .ok (.getfield 26, 3) := by decide +kernel
theorem dX5_silent_21 : decode cX5_silent 21 = .ok (.iload_n 1, 1) := by decide +kernel
theorem dX5_silent_22 : decode cX5_silent 22 = .ok (.iload_n 2, 1) := by decide +kernel
theorem dX5_silent_23 : decode cX5_silent 23 = .ok (.bastore, 1) := by decide +kernel
theorem dX5_silent_24 : decode cX5_silent 24 = .ok (.iload_n 3, 1) := by decide +kernel
theorem dX5_silent_25 : decode cX5_silent 25 = .ok (.iload_n 2, 1) := by decide +kernel
theorem dX5_silent_26 : decode cX5_silent 26 = .ok (.if_icmp .ne 7, 3) := by decide +kernel
theorem dX5_silent_29 : decode cX5_silent 29 = .ok (.iconst 0, 1) := by decide +kernel
theorem dX5_silent_30 : decode cX5_silent 30 = .ok (.goto 4, 3) := by decide +kernel
theorem dX5_silent_33 : decode cX5_silent 33 = .ok (.iconst 1, 1) := by decide +kernel
theorem dX5_silent_34 : decode cX5_silent 34 = .ok (.ireturn, 1) := by decide +kernel
set_option maxRecDepth 20000 in
theorem ggX5_counter_X5_none : GoodIn wsX5_counter wsX5_none := goodIn_r _ [6, 7, 8, 9, 10, 11, 12, 13, 14, 15, 16, 17, 18, 19, 20, 21, 22, 23, 24, 25, 26, 27, 28, 29, 30, 31, 32, 33, 34, 35, 36, 37, 38, 39, 40, 41, 42, 43, 44] (by decide +kernel) (by decide +kernel)
set_option maxRecDepth 20000 in
theorem gX5_counter_X5_none : GoodIn wsX5_counter (wsV RX5 136 RX5 yX5_none wsX5_none) := goodIn_app (goodIn_of _ (by decide +kernel)) ggX5_counter_X5_none
theorem dX5_counter_0 : decode cX5_counter 0 = .ok (.aload_n 0, 1) := by decide +kernel
theorem dX5_counter_1 : decode cX5_counter 1 = .ok (.iload_n 1, 1) := by decide +kernel
theorem dX5_counter_2 : decode cX5_counter 2 = .ok (.invokevirtual 136, 3) := by decide +kernel
theorem dX5_counter_5 : decode cX5_counter 5 = .ok (.ifCond .eq 7, 3) := by decide +kernel
theorem dX5_counter_8 : decode cX5_counter 8 = .ok (.iconst (-1), 1) := by decide +kernel
theorem dX5_counter_9 : decode cX5_counter 9 = .ok (.goto 9, 3) := by decide +kernel
theorem dX5_counter_12 : decode cX5_counter 12 = .ok (.aload_n 0, 1) := by decide +kernel
theorem dX5_counter_13 : decode cX5_counter 13 = .ok (.getfield 16, 3) := by decide +kernel
theorem dX5_counter_16 : decode cX5_counter 16 = .ok (.iload_n 1, 1) := by decide +kernel
theorem dX5_counter_17 : decode cX5_counter 17 = .ok (.iaload, 1) := by decide +kernel
theorem dX5_counter_18 : decode cX5_counter 18 = .ok (.ireturn, 1) := by decide +kernel
theorem dJx00060_init_a7421_0 : decode cJx00060_init_a7421 0 = .ok (.aload_n 0, 1) := by decide +kernel
theorem dJx00060_init_a7421_1 : decode cJx00060_init_a7421 1 = .ok (.aload_n 1, 1) := by decide +kernel
theorem dJx00060_init_a7421_2 : decode cJx00060_init_a7421 2 = .ok (.invokespecial 7, 3) := by decide +kernel
theorem dJx00060_init_a7421_5 : decode cJx00060_init_a7421 5 = .ok (.return_, 1) := by decide +kernel
theorem dJ9_min_7cf53_0 : decode cJ9_min_7cf53 0 = .ok (.iload_n 0, 1) := by decide +kernel
theorem dJ9_min_7cf53_1 : decode cJ9_min_7cf53 1 = .ok (.iload_n 1, 1) := by decide +kernel
theorem dJ9_min_7cf53_2 : decode cJ9_min_7cf53 2 = .ok (.if_icmp .gt 7, 3) := by decide +kernel
theorem dJ9_min_7cf53_5 : decode cJ9_min_7cf53 5 = .ok (.iload_n 0, 1) := by decide +kernel
theorem dJ9_min_7cf53_6 : decode cJ9_min_7cf53 6 = .ok (.goto 4, 3) := by decide +kernel
theorem dJ9_min_7cf53_9 : decode cJ9_min_7cf53 9 = .ok (.iload_n 1, 1) := by decide +kernel
theorem dJ9_min_7cf53_10 : decode cJ9_min_7cf53 10 = .ok (.ireturn, 1) := by decide +kernel
theorem dL_digest_0 : decode cL_digest 0 = .ok (.aload_n 2, 1) := by decide +kernel
theorem dL_digest_1 : decode cL_digest 1 = .ok (.iconst 0, 1) := by decide +kernel
theorem dL_digest_2 : decode cL_digest 2 = .ok (.aload_n 0, 1) := by decide +kernel
theorem dL_digest_3 : decode cL_digest 3 = .ok (.iload_n 1, 1) := by decide +kernel
theorem dL_digest_4 : decode cL_digest 4 = .ok (.invokevirtual 7, 3) := by decide +kernel
theorem dL_digest_7 : decode cL_digest 7 = .ok (.i2l, 1) := by decide +kernel
theorem dL_digest_8 : decode cL_digest 8 = .ok (.lastore, 1) := by decide +kernel
theorem dL_digest_9 : decode cL_digest 9 = .ok (.goto 6, 3) := by decide +kernel
theorem dL_digest_12 : decode cL_digest 12 = .ok (.astore_n 3, 1) := by decide +kernel
theorem dL_digest_13 : decode cL_digest 13 = .ok (.iconst 1, 1) := by decide +kernel
theorem dL_digest_14 : decode cL_digest 14 = .ok (.ireturn, 1) := by decide +kernel
theorem dL_digest_15 : decode cL_digest 15 = .ok (.iconst 0, 1) := by decide +kernel
theorem dL_digest_16 : decode cL_digest 16 = .ok (.ireturn, 1) := by decide +kernel
theorem dL_bank_0 : decode cL_bank 0 = .ok (.aload 5, 2) := by decide +kernel
