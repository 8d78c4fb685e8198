theorem dX5_at_10 : decode cX5_at 10 = .ok (.iaload, 1) := by decide +kernel
theorem dX5_at_11 : decode cX5_at 11 = .ok (.ireturn, 1) := by decide +kernel
theorem dX5_none_0 : decode cX5_none 0 = .ok (.aload_n 0, 1) := by decide +kernel
theorem dX5_none_1 : decode cX5_none 1 = .ok (.iconst 0, 1) := by decide +kernel
theorem dX5_none_2 : decode cX5_none 2 = .ok (.putfield 99, 3) := by decide +kernel
theorem dX5_none_5 : decode cX5_none 5 = .ok (.iload_n 1, 1) := by decide +kernel
theorem dX5_none_6 : decode cX5_none 6 = .ok (.iconst 1, 1) := by decide +kernel
theorem dX5_none_7 : decode cX5_none 7 = .ok (.if_icmp .lt 11, 3) := by decide +kernel
theorem dX5_none_10 : decode cX5_none 10 = .ok (.iload_n 1, 1) := by decide +kernel
theorem dX5_none_11 : decode cX5_none 11 = .ok (.aload_n 0, 1) := by decide +kernel
theorem dX5_none_12 : decode cX5_none 12 = .ok (.getfield 123, 3) := by decide +kernel
theorem dX5_none_15 : decode cX5_none 15 = .ok (.if_icmp .le 7, 3) := by decide +kernel
theorem dX5_none_18 : decode cX5_none 18 = .ok (.iconst 1, 1) := by decide +kernel
theorem dX5_none_19 : decode cX5_none 19 = .ok (.goto 4, 3) := by decide +kernel
theorem dX5_none_22 : decode cX5_none 22 = .ok (.iconst 0, 1) := by decide +kernel
theorem dX5_none_23 : decode cX5_none 23 = .ok (.ireturn, 1) := by decide +kernel
theorem dX5_controller_0 : decode cX5_controller 0 = .ok (.aload_n 0, 1) := by decide +kernel
theorem dX5_controller_1 : decode cX5_controller 1 = .ok (.iconst 0, 1) := by decide +kernel
theorem dX5_controller_2 : decode cX5_controller 2 = .ok (.putfield 99, 3) := by decide +kernel
theorem dX5_controller_5 : decode cX5_controller 5 = .ok (.iload_n 1, 1) := by decide +kernel
theorem dX5_controller_6 : decode cX5_controller 6 = .ok (.iconst 1, 1) := by decide +kernel
theorem dX5_controller_7 : decode cX5_controller 7 = .ok (.if_icmp .lt 9, 3) := by decide +kernel
theorem dX5_controller_10 : decode cX5_controller 10 = .ok (.iload_n 1, 1) := by decide +kernel
theorem dX5_controller_11 : decode cX5_controller 11 = .ok (.bipush 127, 2) := by decide +kernel
theorem dX5_controller_13 : decode cX5_controller 13 = .ok (.if_icmp .le 6, 3) := by decide +kernel
theorem dX5_controller_16 : decode cX5_controller 16 = .ok (.bipush (-2), 2) := by decide +kernel
theorem dX5_controller_18 : decode cX5_controller 18 = .ok (.ireturn, 1) := by decide +kernel
theorem dX5_controller_19 : decode cX5_controller 19 = .ok (.aload_n 0, 1) := by decide +kernel
theorem dX5_controller_20 : decode cX5_controller 20 = .ok (.getfield 123, 3) := by decide +kernel
theorem dX5_controller_23 : decode cX5_controller 23 = .ok (.bipush 8, 2) := by decide +kernel
theorem dX5_controller_25 : decode cX5_controller 25 = .ok (.if_icmp .ne 6, 3) := by decide +kernel
theorem dX5_controller_28 : decode cX5_controller 28 = .ok (.bipush (-4), 2) := by decide +kernel
theorem dX5_controller_30 : decode cX5_controller 30 = .ok (.ireturn, 1) := by decide +kernel
theorem dX5_controller_31 : decode cX5_controller 31 = .ok (.aload_n 0, 1) := by decide +kernel
theorem dX5_controller_32 : decode cX5_controller 32 = .ok (.dup, 1) := by decide +kernel
theorem dX5_controller_33 : decode cX5_controller 33 = .ok (.getfield 123, 3) := by decide +kernel
theorem dX5_controller_36 : decode cX5_controller 36 = .ok (.iconst 1, 1) := by decide +kernel
theorem dX5_controller_37 : decode cX5_controller 37 = .ok (.iadd, 1) := by decide +kernel
theorem dX5_controller_38 : decode cX5_controller 38 = .ok (.putfield 123, 3) := by decide +kernel
theorem dX5_controller_41 : decode cX5_controller 41 = .ok (.aload_n 0, 1) := by decide +kernel
theorem dX5_controller_42 : decode cX5_controller 42 = .ok (.getfield 7, 3) := by decide +kernel
theorem dX5_controller_45 : decode cX5_controller 45 = .ok (.aload_n 0, 1) := by decide +kernel
theorem dX5_controller_46 : decode cX5_controller 46 = .ok (.getfield 123, 3) := by decide +kernel
theorem dX5_controller_49 : decode cX5_controller 49 = .ok (.iload_n 1, 1) := by decide +kernel
theorem dX5_controller_50 : decode cX5_controller 50 = .ok (.iastore, 1) := by decide +kernel
theorem dX5_controller_51 : decode cX5_controller 51 = .ok (.aload_n 0, 1) := by decide +kernel
theorem dX5_controller_52 : decode cX5_controller 52 = .ok (.getfield 29, 3) := by decide +kernel
theorem dX5_controller_55 : decode cX5_controller 55 = .ok (.aload_n 0, 1) := by decide +kernel
theorem dX5_controller_56 : decode cX5_controller 56 = .ok (.getfield 123, 3) := by decide +kernel
theorem dX5_controller_59 : decode cX5_controller 59 = .ok (.iconst (-1), 1) := by decide +kernel
theorem dX5_controller_60 : decode cX5_controller 60 = .ok (.iastore, 1) := by decide +kernel
theorem dX5_controller_61 : decode cX5_controller 61 = .ok (.aload_n 0, 1) := by decide +kernel
theorem dX5_controller_62 : decode cX5_controller 62 = .ok (.getfield 123, 3) := by decide +kernel
theorem dX5_controller_65 : decode cX5_controller 65 = .ok (.ireturn, 1) := by decide +kernel
theorem dX5_octet_0 : decode cX5_octet 0 = .ok (.aload_n 0, 1) := by decide +kernel
theorem dX5_octet_1 : decode cX5_octet 1 = .ok (.iconst 0, 1) := by decide +kernel
theorem dX5_octet_2 : decode cX5_octet 2 = .ok (.putfield 99, 3) := by decide +kernel
theorem dX5_octet_5 : decode cX5_octet 5 = .ok (.aload_n 0, 1) := by decide +kernel
theorem dX5_octet_6 : decode cX5_octet 6 = .ok (.getfield 126, 3) := by decide +kernel
theorem dX5_octet_9 : decode cX5_octet 9 = .ok (.sipush 256, 3) := by decide +kernel
theorem dX5_octet_12 : decode cX5_octet 12 = .ok (.if_icmp .ne 4, 3) := by decide +kernel
theorem dX5_octet_15 : decode cX5_octet 15 = .ok (.return_, 1) := by decide +kernel
theorem dX5_octet_16 : decode cX5_octet 16 = .ok (.aload_n 0, 1) := by decide +kernel
theorem dX5_octet_17 : decode cX5_octet 17 = .ok (.getfield 68, 3) := by decide +kernel
theorem dX5_octet_20 : decode cX5_octet 20 = .ok (.aload_n 0, 1) := by decide +kernel
theorem dX5_octet_21 : decode cX5_octet 21 = .ok (.getfield 126, 3) := by decide +kernel
theorem dX5_octet_24 : decode cX5_octet 24 = .ok (.iload_n 1, 1) := by decide +kernel
theorem dX5_octet_25 : decode cX5_octet 25 = .ok (.sipush 255, 3) := by decide +kernel
theorem dX5_octet_28 : decode cX5_octet 28 = .ok (.iand, 1) := by decide +kernel
theorem dX5_octet_29 : decode cX5_octet 29 = .ok (.iastore, 1) := by decide +kernel
theorem dX5_octet_30 : decode cX5_octet 30 = .ok (.aload_n 0, 1) := by decide +kernel
theorem dX5_octet_31 : decode cX5_octet 31 = .ok (.dup, 1) := by decide +kernel
theorem dX5_octet_32 : decode cX5_octet 32 = .ok (.getfield 126, 3) := by decide +kernel
theorem dX5_octet_35 : decode cX5_octet 35 = .ok (.iconst 1, 1) := by decide +kernel
theorem dX5_octet_36 : decode cX5_octet 36 = .ok (.iadd, 1) := by decide +kernel
theorem dX5_octet_37 : decode cX5_octet 37 = .ok (.putfield 126, 3) := by decide +kernel
theorem dX5_octet_40 : decode cX5_octet 40 = .ok (.return_, 1) := by decide +kernel
theorem dX5_stateOf_0 : decode cX5_stateOf 0 = .ok (.aload_n 0, 1) := by decide +kernel
theorem dX5_stateOf_1 : decode cX5_stateOf 1 = .ok (.getfield 19, 3) := by decide +kernel
theorem dX5_stateOf_4 : decode cX5_stateOf 4 = .ok (.iload_n 1, 1) := by decide +kernel
theorem dX5_stateOf_5 : decode cX5_stateOf 5 = .ok (.iaload, 1) := by decide +kernel
theorem dX5_stateOf_6 : decode cX5_stateOf 6 = .ok (.ifCond .ne 7, 3) := by decide +kernel
theorem dX5_stateOf_9 : decode cX5_stateOf 9 = .ok (.iconst 0, 1) := by decide +kernel
theorem dX5_stateOf_10 : decode cX5_stateOf 10 = .ok (.goto 14, 3) := by decide +kernel
theorem dX5_stateOf_13 : decode cX5_stateOf 13 = .ok (.aload_n 0, 1) := by decide +kernel
theorem dX5_stateOf_14 : decode cX5_stateOf 14 = .ok (.getfield 50, 3) := by decide +kernel
theorem dX5_stateOf_17 : decode cX5_stateOf 17 = .ok (.aload_n 0, 1) := by decide +kernel
theorem dX5_stateOf_18 : decode cX5_stateOf 18 = .ok (.getfield 19, 3) := by decide +kernel
theorem dX5_stateOf_21 : decode cX5_stateOf 21 = .ok (.iload_n 1, 1) := by decide +kernel
theorem dX5_stateOf_22 : decode cX5_stateOf 22 = .ok (.iaload, 1) := by decide +kernel
theorem dX5_stateOf_23 : decode cX5_stateOf 23 = .ok (.iaload, 1) := by decide +kernel
theorem dX5_stateOf_24 : decode cX5_stateOf 24 = .ok (.ireturn, 1) := by decide +kernel
theorem dX5_there_0 : decode cX5_there 0 = .ok (.aload_n 0, 1) := by decide +kernel
theorem dX5_there_1 : decode cX5_there 1 = .ok (.getfield 22, 3) := by decide +kernel
theorem dX5_there_4 : decode cX5_there 4 = .ok (.iload_n 1, 1) := by decide +kernel
theorem dX5_there_5 : decode cX5_there 5 = .ok (.baload, 1) := by decide +kernel
theorem dX5_there_6 : decode cX5_there 6 = .ok (.ifCond .ne 16, 3) := by decide +kernel
theorem dX5_there_9 : decode cX5_there 9 = .ok (.aload_n 0, 1) := by decide +kernel
theorem dX5_there_10 : decode cX5_there 10 = .ok (.getfield 26, 3) := by decide +kernel
theorem dX5_there_13 : decode cX5_there 13 = .ok (.iload_n 1, 1) := by decide +kernel
theorem dX5_there_14 : decode cX5_there 14 = .ok (.baload, 1) := by decide +kernel
theorem dX5_there_15 : decode cX5_there 15 = .ok (.ifCond .ne 7, 3) := by decide +kernel
theorem dX5_there_18 : decode cX5_there 18 = .ok (.iconst 1, 1) := by decide +kernel
theorem dX5_there_19 : decode cX5_there 19 = .ok (.goto 4, 3) := by decide +kernel
theorem dX5_there_22 : decode cX5_there 22 = .ok (.iconst 0, 1) := by decide +kernel
theorem dX5_there_23 : decode cX5_there 23 = .ok (.ireturn, 1) := by decide +kernel
theorem dX5_hold_0 : decode cX5_hold 0 = .ok (.aload_n 0, 1) := by decide +kernel
theorem dX5_hold_1 : decode cX5_hold 1 = .ok (.getfield 129, 3) := by decide +kernel
theorem dX5_hold_4 : decode cX5_hold 4 = .ok (.ifCond .ne 14, 3) := by decide +kernel
theorem dX5_hold_7 : decode cX5_hold 7 = .ok (.aload_n 0, 1) := by decide +kernel
theorem dX5_hold_8 : decode cX5_hold 8 = .ok (.getfield 133, 3) := by decide +kernel
theorem dX5_hold_11 : decode cX5_hold 11 = .ok (.ifCond .ne 7, 3) := by decide +kernel
theorem dX5_hold_14 : decode cX5_hold 14 = .ok (.iconst 1, 1) := by decide +kernel
theorem dX5_hold_15 : decode cX5_hold 15 = .ok (.goto 4, 3) := by decide +kernel
theorem dX5_hold_18 : decode cX5_hold 18 = .ok (.iconst 0, 1) := by decide +kernel
theorem dX5_hold_19 : decode cX5_hold 19 = .ok (.ireturn, 1) := by decide +kernel
set_option maxRecDepth 20000 in
theorem ggX5_package0_X5_none : GoodIn wsX5_package0 wsX5_none := goodIn_r _ [17, 18, 19, 46, 47, 48, 49, 50, 51, 52, 53, 54, 55, 56, 57, 58, 59, 60, 61, 62, 63, 64, 65, 66, 67, 68, 69, 70, 71, 72, 73, 74, 75, 76, 77, 78, 79, 80, 81] (by decide +kernel) (by decide +kernel)
set_option maxRecDepth 20000 in
theorem gX5_package0_X5_none : GoodIn wsX5_package0 (wsV RX5 136 RX5 yX5_none wsX5_none) := goodIn_app (goodIn_of _ (by decide +kernel)) ggX5_package0_X5_none
set_option maxRecDepth 20000 in
theorem ggX5_package0_X5_stateOf : GoodIn wsX5_package0 wsX5_stateOf := goodIn_ca (goodIn_r _ [23, 6, 11, 46, 47, 48, 49, 50, 51, 52, 53, 54, 55, 56, 57, 58, 59, 60, 61, 62, 63, 64, 65, 66, 67, 68, 69, 70, 71, 72, 73, 74, 75, 76, 77, 78, 79, 80, 81] (by decide +kernel) (by decide +kernel)) (goodIn_sub (fun _ h => List.mem_cons_of_mem _ (List.mem_append_right _ h)) (by decide +kernel))
set_option maxRecDepth 20000 in
theorem gX5_package0_X5_stateOf : GoodIn wsX5_package0 (wsV RX5 140 RX5 yX5_stateOf wsX5_stateOf) := goodIn_app (goodIn_of _ (by decide +kernel)) ggX5_package0_X5_stateOf
set_option maxRecDepth 20000 in
theorem ggX5_package0_X5_findDigest : GoodIn wsX5_package0 wsX5_findDigest := goodIn_ca (goodIn_r _ [27, 10, 28, 29, 30, 31, 32, 33, 34, 35, 36, 37, 16, 38, 12, 39, 40, 41, 42, 43, 44, 45, 46, 47, 48, 49, 50, 51, 52, 53, 54, 55, 56, 57, 58, 59, 60, 61, 62, 63, 64, 65, 66, 67, 68, 69, 70, 71, 72, 73, 74, 75, 76, 77, 78, 79, 80, 81] (by decide +kernel) (by decide +kernel)) (goodIn_sub (fun _ h => List.mem_cons_of_mem _ (List.mem_append_right _ h)) (by decide +kernel))
set_option maxRecDepth 20000 in
theorem gX5_package0_X5_findDigest : GoodIn wsX5_package0 (wsV RX5 147 RX5 yX5_findDigest wsX5_findDigest) := goodIn_app (goodIn_of _ (by decide +kernel)) ggX5_package0_X5_findDigest
theorem dX5_package0_0 : decode cX5_package0 0 = .ok (.aload_n 0, 1) := by decide +kernel
theorem dX5_package0_1 : decode cX5_package0 1 = .ok (.iload_n 1, 1) := by decide +kernel
theorem dX5_package0_2 : decode cX5_package0 2 = .ok (.invokevirtual 136, 3) := by decide +kernel
theorem dX5_package0_5 : decode cX5_package0 5 = .ok (.ifCond .eq 5, 3) := by decide +kernel
theorem dX5_package0_8 : decode cX5_package0 8 = .ok (.iconst (-1), 1) := by decide +kernel
theorem dX5_package0_9 : decode cX5_package0 9 = .ok (.ireturn, 1) := by decide +kernel
theorem dX5_package0_10 : decode cX5_package0 10 = .ok (.iload_n 2, 1) := by decide +kernel
theorem dX5_package0_11 : decode cX5_package0 11 = .ok (.iconst 1, 1) := by decide +kernel
theorem dX5_package0_12 : decode cX5_package0 12 = .ok (.if_icmp .lt 17, 3) := by decide +kernel
theorem dX5_package0_15 : decode cX5_package0 15 = .ok (.iload_n 2, 1) := by decide +kernel
theorem dX5_package0_16 : decode cX5_package0 16 = .ok (.sipush 1000, 3) := by decide +kernel
theorem dX5_package0_19 : decode cX5_package0 19 = .ok (.if_icmp .gt 10, 3) := by decide +kernel
theorem dX5_package0_22 : decode cX5_package0 22 = .ok (.aload_n 0, 1) := by decide +kernel
theorem dX5_package0_23 : decode cX5_package0 23 = .ok (.getfield 126, 3) := by decide +kernel
theorem dX5_package0_26 : decode cX5_package0 26 = .ok (.ifCond .ne 6, 3) := by decide +kernel
theorem dX5_package0_29 : decode cX5_package0 29 = .ok (.bipush (-2), 2) := by decide +kernel
theorem dX5_package0_31 : decode cX5_package0 31 = .ok (.ireturn, 1) := by decide +kernel
theorem dX5_package0_32 : decode cX5_package0 32 = .ok (.aload_n 0, 1) := by decide +kernel
theorem dX5_package0_33 : decode cX5_package0 33 = .ok (.iload_n 1, 1) := by decide +kernel
theorem dX5_package0_34 : decode cX5_package0 34 = .ok (.invokevirtual 140, 3) := by decide +kernel
theorem dX5_package0_37 : decode cX5_package0 37 = .ok (.iconst 2, 1) := by decide +kernel
theorem dX5_package0_38 : decode cX5_package0 38 = .ok (.if_icmp .lt 6, 3) := by decide +kernel
theorem dX5_package0_41 : decode cX5_package0 41 = .ok (.bipush (-3), 2) := by decide +kernel
theorem dX5_package0_43 : decode cX5_package0 43 = .ok (.ireturn, 1) := by decide +kernel
theorem dX5_package0_44 : decode cX5_package0 44 = .ok (.aload_n 0, 1) := by decide +kernel
theorem dX5_package0_45 : decode cX5_package0 45 = .ok (.getfield 144, 3) := by decide +kernel
theorem dX5_package0_48 : decode cX5_package0 48 = .ok (.bipush 60, 2) := by decide +kernel
theorem dX5_package0_50 : decode cX5_package0 50 = .ok (.if_icmp .ne 6, 3) := by decide +kernel
theorem dX5_package0_53 : decode cX5_package0 53 = .ok (.bipush (-4), 2) := by decide +kernel
theorem dX5_package0_55 : decode cX5_package0 55 = .ok (.ireturn, 1) := by decide +kernel
theorem dX5_package0_56 : decode cX5_package0 56 = .ok (.iload_n 3, 1) := by decide +kernel
theorem dX5_package0_57 : decode cX5_package0 57 = .ok (.ifCond .ne 6, 3) := by decide +kernel
theorem dX5_package0_60 : decode cX5_package0 60 = .ok (.bipush (-5), 2) := by decide +kernel
theorem dX5_package0_62 : decode cX5_package0 62 = .ok (.ireturn, 1) := by decide +kernel
theorem dX5_package0_63 : decode cX5_package0 63 = .ok (.aload_n 0, 1) := by decide +kernel
theorem dX5_package0_64 : decode cX5_package0 64 = .ok (.getfield 68, 3) := by decide +kernel
theorem dX5_package0_67 : decode cX5_package0 67 = .ok (.iconst 0, 1) := by decide +kernel
theorem dX5_package0_68 : decode cX5_package0 68 = .ok (.iaload, 1) := by decide +kernel
theorem dX5_package0_69 : decode cX5_package0 69 = .ok (.aload_n 0, 1) := by decide +kernel
theorem dX5_package0_70 : decode cX5_package0 70 = .ok (.getfield 7, 3) := by decide +kernel
theorem dX5_package0_73 : decode cX5_package0 73 = .ok (.iload_n 1, 1) := by decide +kernel
theorem dX5_package0_74 : decode cX5_package0 74 = .ok (.iaload, 1) := by decide +kernel
theorem dX5_package0_75 : decode cX5_package0 75 = .ok (.if_icmp .eq 6, 3) := by decide +kernel
theorem dX5_package0_78 : decode cX5_package0 78 = .ok (.bipush (-6), 2) := by decide +kernel
theorem dX5_package0_80 : decode cX5_package0 80 = .ok (.ireturn, 1) := by decide +kernel
theorem dX5_package0_81 : decode cX5_package0 81 = .ok (.iload_n 2, 1) := by decide +kernel
theorem dX5_package0_82 : decode cX5_package0 82 = .ok (.aload_n 0, 1) := by decide +kernel
theorem dX5_package0_83 : decode cX5_package0 83 = .ok (.getfield 16, 3) := by decide +kernel
theorem dX5_package0_86 : decode cX5_package0 86 = .ok (.iload_n 1, 1) := by decide +kernel
theorem dX5_package0_87 : decode cX5_package0 87 = .ok (.iaload, 1) := by decide +kernel
theorem dX5_package0_88 : decode cX5_package0 88 = .ok (.if_icmp .gt 6, 3) := by decide +kernel
theorem dX5_package0_91 : decode cX5_package0 91 = .ok (.bipush (-7), 2) := by decide +kernel
theorem dX5_package0_93 : decode cX5_package0 93 = .ok (.ireturn, 1) := by decide +kernel
theorem dX5_package0_94 : decode cX5_package0 94 = .ok (.aload_n 0, 1) := by decide +kernel
theorem dX5_package0_95 : decode cX5_package0 95 = .ok (.getfield 19, 3) := by decide +kernel
theorem dX5_package0_98 : decode cX5_package0 98 = .ok (.iload_n 1, 1) := by decide +kernel
theorem dX5_package0_99 : decode cX5_package0 99 = .ok (.iaload, 1) := by decide +kernel
theorem dX5_package0_100 : decode cX5_package0 100 = .ok (.ifCond .le 15, 3) := by decide +kernel
theorem dX5_package0_103 : decode cX5_package0 103 = .ok (.aload_n 0, 1) := by decide +kernel
theorem dX5_package0_104 : decode cX5_package0 104 = .ok (.getfield 59, 3) := by decide +kernel
theorem dX5_package0_107 : decode cX5_package0 107 = .ok (.aload_n 0, 1) := by decide +kernel
theorem dX5_package0_108 : decode cX5_package0 108 = .ok (.getfield 19, 3) := by decide +kernel
theorem dX5_package0_111 : decode cX5_package0 111 = .ok (.iload_n 1, 1) := by decide +kernel
theorem dX5_package0_112 : decode cX5_package0 112 = .ok (.iaload, 1) := by decide +kernel
theorem dX5_package0_113 : decode cX5_package0 113 = .ok (.iconst 0, 1) := by decide +kernel
theorem dX5_package0_114 : decode cX5_package0 114 = .ok (.iastore, 1) := by decide +kernel
theorem dX5_package0_115 : decode cX5_package0 115 = .ok (.aload_n 0, 1) := by decide +kernel
theorem dX5_package0_116 : decode cX5_package0 116 = .ok (.dup, 1) := by decide +kernel
theorem dX5_package0_117 : decode cX5_package0 117 = .ok (.getfield 144, 3) := by decide +kernel
theorem dX5_package0_120 : decode cX5_package0 120 = .ok (.iconst 1, 1) := by decide +kernel
theorem dX5_package0_121 : decode cX5_package0 121 = .ok (.iadd, 1) := by decide +kernel
theorem dX5_package0_122 : decode cX5_package0 122 = .ok (.putfield 144, 3) := by decide +kernel
theorem dX5_package0_125 : decode cX5_package0 125 = .ok (.aload_n 0, 1) := by decide +kernel
theorem dX5_package0_126 : decode cX5_package0 126 = .ok (.getfield 19, 3) := by decide +kernel
theorem dX5_package0_129 : decode cX5_package0 129 = .ok (.iload_n 1, 1) := by decide +kernel
theorem dX5_package0_130 : decode cX5_package0 130 = .ok (.aload_n 0, 1) := by decide +kernel
theorem dX5_package0_131 : decode cX5_package0 131 = .ok (.getfield 144, 3) := by decide +kernel
theorem dX5_package0_134 : decode cX5_package0 134 = .ok (.iastore, 1) := by decide +kernel
theorem dX5_package0_135 : decode cX5_package0 135 = .ok (.aload_n 0, 1) := by decide +kernel
theorem dX5_package0_136 : decode cX5_package0 136 = .ok (.getfield 41, 3) := by decide +kernel
theorem dX5_package0_139 : decode cX5_package0 139 = .ok (.aload_n 0, 1) := by decide +kernel
theorem dX5_package0_140 : decode cX5_package0 140 = .ok (.getfield 144, 3) := by decide +kernel
theorem dX5_package0_143 : decode cX5_package0 143 = .ok (.iload_n 1, 1) := by decide +kernel
theorem dX5_package0_144 : decode cX5_package0 144 = .ok (.iastore, 1) := by decide +kernel
theorem dX5_package0_145 : decode cX5_package0 145 = .ok (.aload_n 0, 1) := by decide +kernel
theorem dX5_package0_146 : decode cX5_package0 146 = .ok (.getfield 44, 3) := by decide +kernel
theorem dX5_package0_149 : decode cX5_package0 149 = .ok (.aload_n 0, 1) := by decide +kernel
theorem dX5_package0_150 : decode cX5_package0 150 = .ok (.getfield 144, 3) := by decide +kernel
theorem dX5_package0_153 : decode cX5_package0 153 = .ok (.iload_n 2, 1) := by decide +kernel
theorem dX5_package0_154 : decode cX5_package0 154 = .ok (.iastore, 1) := by decide +kernel
theorem dX5_package0_155 : decode cX5_package0 155 = .ok (.aload_n 0, 1) := by decide +kernel
theorem dX5_package0_156 : decode cX5_package0 156 = .ok (.getfield 47, 3) := by decide +kernel
theorem dX5_package0_159 : decode cX5_package0 159 = .ok (.aload_n 0, 1) := by decide +kernel
theorem dX5_package0_160 : decode cX5_package0 160 = .ok (.getfield 144, 3) := by decide +kernel
theorem dX5_package0_163 : decode cX5_package0 163 = .ok (.aload_n 0, 1) := by decide +kernel
theorem dX5_package0_164 : decode cX5_package0 164 = .ok (.getfield 126, 3) := by decide +kernel
theorem dX5_package0_167 : decode cX5_package0 167 = .ok (.iastore, 1) := by decide +kernel
theorem dX5_package0_168 : decode cX5_package0 168 = .ok (.aload_n 0, 1) := by decide +kernel
theorem dX5_package0_169 : decode cX5_package0 169 = .ok (.getfield 50, 3) := by decide +kernel
theorem dX5_package0_172 : decode cX5_package0 172 = .ok (.aload_n 0, 1) := by decide +kernel
theorem dX5_package0_173 : decode cX5_package0 173 = .ok (.getfield 144, 3) := by decide +kernel
theorem dX5_package0_176 : decode cX5_package0 176 = .ok (.iconst 1, 1) := by decide +kernel
theorem dX5_package0_177 : decode cX5_package0 177 = .ok (.iastore, 1) := by decide +kernel
theorem dX5_package0_178 : decode cX5_package0 178 = .ok (.aload_n 0, 1) := by decide +kernel
theorem dX5_package0_179 : decode cX5_package0 179 = .ok (.getfield 59, 3) := by decide +kernel
theorem dX5_package0_182 : decode cX5_package0 182 = .ok (.aload_n 0, 1) := by decide +kernel
theorem dX5_package0_183 : decode cX5_package0 183 = .ok (.getfield 144, 3) := by decide +kernel
theorem dX5_package0_186 : decode cX5_package0 186 = .ok (.aload_n 0, 1) := by decide +kernel
theorem dX5_package0_187 : decode cX5_package0 187 = .ok (.getfield 144, 3) := by decide +kernel
theorem dX5_package0_190 : decode cX5_package0 190 = .ok (.iastore, 1) := by decide +kernel
theorem dX5_package0_191 : decode cX5_package0 191 = .ok (.iconst 0, 1) := by decide +kernel
theorem dX5_package0_192 : decode cX5_package0 192 = .ok (.istore 4, 2) := by decide +kernel
theorem dX5_package0_194 : decode cX5_package0 194 = .ok (.iload 4, 2) := by decide +kernel
theorem dX5_package0_196 : decode cX5_package0 196 = .ok (.aload_n 0, 1) := by decide +kernel
theorem dX5_package0_197 : decode cX5_package0 197 = .ok (.getfield 126, 3) := by decide +kernel
theorem dX5_package0_200 : decode cX5_package0 200 = .ok (.if_icmp .ge 32, 3) := by decide +kernel
theorem dX5_package0_203 : decode cX5_package0 203 = .ok (.aload_n 0, 1) := by decide +kernel
theorem dX5_package0_204 : decode cX5_package0 204 = .ok (.getfield 65, 3) := by decide +kernel
theorem dX5_package0_207 : decode cX5_package0 207 = .ok (.sipush 256, 3) := by decide +kernel
theorem dX5_package0_210 : decode cX5_package0 210 = .ok (.aload_n 0, 1) := by decide +kernel
theorem dX5_package0_211 : decode cX5_package0 211 = .ok (.getfield 144, 3) := by decide +kernel
theorem dX5_package0_214 : decode cX5_package0 214 = .ok (.imul, 1) := by decide +kernel
theorem dX5_package0_215 : decode cX5_package0 215 = .ok (.iload 4, 2) := by decide +kernel
theorem dX5_package0_217 : decode cX5_package0 217 = .ok (.iadd, 1) := by decide +kernel
theorem dX5_package0_218 : decode cX5_package0 218 = .ok (.aload_n 0, 1) := by decide +kernel
theorem dX5_package0_219 : decode cX5_package0 219 = .ok (.getfield 68, 3) := by decide +kernel
theorem dX5_package0_222 : decode cX5_package0 222 = .ok (.iload 4, 2) := by decide +kernel
theorem dX5_package0_224 : decode cX5_package0 224 = .ok (.iaload, 1) := by decide +kernel
theorem dX5_package0_225 : decode cX5_package0 225 = .ok (.iastore, 1) := by decide +kernel
theorem dX5_package0_226 : decode cX5_package0 226 = .ok (.iinc 4 1, 3) := by decide +kernel
theorem dX5_package0_229 : decode cX5_package0 229 = .ok (.goto (-35), 3) := by decide +kernel
theorem dX5_package0_232 : decode cX5_package0 232 = .ok (.aload_n 0, 1) := by decide +kernel
theorem dX5_package0_233 : decode cX5_package0 233 = .ok (.iconst 0, 1) := by decide +kernel
theorem dX5_package0_234 : decode cX5_package0 234 = .ok (.putfield 126, 3) := by decide +kernel
theorem dX5_package0_237 : decode cX5_package0 237 = .ok (.aload_n 0, 1) := by decide +kernel
theorem dX5_package0_238 : decode cX5_package0 238 = .ok (.aload_n 0, 1) := by decide +kernel
theorem dX5_package0_239 : decode cX5_package0 239 = .ok (.getfield 144, 3) := by decide +kernel
theorem dX5_package0_242 : decode cX5_package0 242 = .ok (.invokevirtual 147, 3) := by decide +kernel
theorem dX5_package0_245 : decode cX5_package0 245 = .ok (.aload_n 0, 1) := by decide +kernel
theorem dX5_package0_246 : decode cX5_package0 246 = .ok (.getfield 144, 3) := by decide +kernel
theorem dX5_package0_249 : decode cX5_package0 249 = .ok (.ireturn, 1) := by decide +kernel
theorem dX5_digest_0 : decode cX5_digest 0 = .ok (.aload_n 0, 1) := by decide +kernel
theorem dX5_digest_1 : decode cX5_digest 1 = .ok (.iload_n 1, 1) := by decide +kernel
theorem dX5_digest_2 : decode cX5_digest 2 = .ok (.ifCond .lt 11, 3) := by decide +kernel
theorem dX5_digest_5 : decode cX5_digest 5 = .ok (.iload_n 1, 1) := by decide +kernel
theorem dX5_digest_6 : decode cX5_digest 6 = .ok (.aload_n 0, 1) := by decide +kernel
theorem dX5_digest_7 : decode cX5_digest 7 = .ok (.getfield 120, 3) := by decide +kernel
theorem dX5_digest_10 : decode cX5_digest 10 = .ok (.if_icmp .lt 7, 3) := by decide +kernel
theorem dX5_digest_13 : decode cX5_digest 13 = .ok (.iconst 1, 1) := by decide +kernel
theorem dX5_digest_14 : decode cX5_digest 14 = .ok (.goto 4, 3) := by decide +kernel
theorem dX5_digest_17 : decode cX5_digest 17 = .ok (.iconst 0, 1) := by decide +kernel
theorem dX5_digest_18 : decode cX5_digest 18 = .ok (.putfield 99, 3) := by decide +kernel
theorem dX5_digest_21 : decode cX5_digest 21 = .ok (.aload_n 0, 1) := by decide +kernel
theorem dX5_digest_22 : decode cX5_digest 22 = .ok (.getfield 99, 3) := by decide +kernel
theorem dX5_digest_25 : decode cX5_digest 25 = .ok (.ifCond .le 7, 3) := by decide +kernel
theorem dX5_digest_28 : decode cX5_digest 28 = .ok (.iconst 0, 1) := by decide +kernel
theorem dX5_digest_29 : decode cX5_digest 29 = .ok (.goto 10, 3) := by decide +kernel
theorem dX5_digest_32 : decode cX5_digest 32 = .ok (.aload_n 0, 1) := by decide +kernel
theorem dX5_digest_33 : decode cX5_digest 33 = .ok (.getfield 71, 3) := by decide +kernel
theorem dX5_digest_36 : decode cX5_digest 36 = .ok (.iload_n 1, 1) := by decide +kernel
theorem dX5_digest_37 : decode cX5_digest 37 = .ok (.iaload, 1) := by decide +kernel
theorem dX5_digest_38 : decode cX5_digest 38 = .ok (.i2b, 1) := by decide +kernel
theorem dX5_digest_39 : decode cX5_digest 39 = .ok (.ireturn, 1) := by decide +kernel
theorem dX5_isOpen_0 : decode cX5_isOpen 0 = .ok (.aload_n 0, 1) := by decide +kernel
theorem dX5_isOpen_1 : decode cX5_isOpen 1 = .ok (.getfield 19, 3) := by decide +kernel
theorem dX5_isOpen_4 : decode cX5_isOpen 4 = .ok (.aload_n 0, 1) := by decide +kernel
theorem dX5_isOpen_5 : decode cX5_isOpen 5 = .ok (.getfield 41, 3) := by decide +kernel
theorem dX5_isOpen_8 : decode cX5_isOpen 8 = .ok (.iload_n 1, 1) := by decide +kernel
theorem dX5_isOpen_9 : decode cX5_isOpen 9 = .ok (.iaload, 1) := by decide +kernel
theorem dX5_isOpen_10 : decode cX5_isOpen 10 = .ok (.iaload, 1) := by decide +kernel
theorem dX5_isOpen_11 : decode cX5_isOpen 11 = .ok (.iload_n 1, 1) := by decide +kernel
theorem dX5_isOpen_12 : decode cX5_isOpen 12 = .ok (.if_icmp .ne 7, 3) := by decide +kernel
theorem dX5_isOpen_15 : decode cX5_isOpen 15 = .ok (.iconst 1, 1) := by decide +kernel
theorem dX5_isOpen_16 : decode cX5_isOpen 16 = .ok (.goto 4, 3) := by decide +kernel
theorem dX5_isOpen_19 : decode cX5_isOpen 19 = .ok (.iconst 0, 1) := by decide +kernel
theorem dX5_isOpen_20 : decode cX5_isOpen 20 = .ok (.ireturn, 1) := by decide +kernel
set_option maxRecDepth 20000 in
theorem ggX5_needs_X5_isOpen : GoodIn wsX5_needs wsX5_isOpen := goodIn_ca (goodIn_r _ [9, 10, 11, 12, 13, 14, 15, 16, 17, 18, 19, 20, 21, 22, 23, 24, 25, 26, 27, 28, 29, 30, 31, 32, 33, 34, 35, 36, 37, 38, 39, 40, 41, 42, 43, 44, 45, 46, 47] (by decide +kernel) (by decide +kernel)) (goodIn_sub (fun _ h => List.mem_cons_of_mem _ (List.mem_append_right _ h)) (by decide +kernel))
set_option maxRecDepth 20000 in
theorem gX5_needs_X5_isOpen : GoodIn wsX5_needs (wsV RX5 151 RX5 yX5_isOpen wsX5_isOpen) := goodIn_app (goodIn_of _ (by decide +kernel)) ggX5_needs_X5_isOpen
theorem dX5_needs_0 : decode cX5_needs 0 = .ok (.aload_n 0, 1) := by decide +kernel
theorem dX5_needs_1 : decode cX5_needs 1 = .ok (.iconst 0, 1) := by decide +kernel
theorem dX5_needs_2 : decode cX5_needs 2 = .ok (.putfield 99, 3) := by decide +kernel
theorem dX5_needs_5 : decode cX5_needs 5 = .ok (.iload_n 1, 1) := by decide +kernel
theorem dX5_needs_6 : decode cX5_needs 6 = .ok (.iconst 1, 1) := by decide +kernel
theorem dX5_needs_7 : decode cX5_needs 7 = .ok (.if_icmp .lt 24, 3) := by decide +kernel
theorem dX5_needs_10 : decode cX5_needs 10 = .ok (.iload_n 1, 1) := by decide +kernel
theorem dX5_needs_11 : decode cX5_needs 11 = .ok (.aload_n 0, 1) := by decide +kernel
theorem dX5_needs_12 : decode cX5_needs 12 = .ok (.getfield 144, 3) := by decide +kernel
theorem dX5_needs_15 : decode cX5_needs 15 = .ok (.if_icmp .gt 16, 3) := by decide +kernel
theorem dX5_needs_18 : decode cX5_needs 18 = .ok (.iload_n 2, 1) := by decide +kernel
theorem dX5_needs_19 : decode cX5_needs 19 = .ok (.iconst 1, 1) := by decide +kernel
theorem dX5_needs_20 : decode cX5_needs 20 = .ok (.if_icmp .lt 11, 3) := by decide +kernel
theorem dX5_needs_23 : decode cX5_needs 23 = .ok (.iload_n 2, 1) := by decide +kernel
theorem dX5_needs_24 : decode cX5_needs 24 = .ok (.aload_n 0, 1) := by decide +kernel
theorem dX5_needs_25 : decode cX5_needs 25 = .ok (.getfield 144, 3) := by decide +kernel
theorem dX5_needs_28 : decode cX5_needs 28 = .ok (.if_icmp .le 5, 3) := by decide +kernel
theorem dX5_needs_31 : decode cX5_needs 31 = .ok (.iconst (-1), 1) := by decide +kernel
theorem dX5_needs_32 : decode cX5_needs 32 = .ok (.ireturn, 1) := by decide +kernel
theorem dX5_needs_33 : decode cX5_needs 33 = .ok (.iload_n 1, 1) := by decide +kernel
theorem dX5_needs_34 : decode cX5_needs 34 = .ok (.iload_n 2, 1) := by decide +kernel
theorem dX5_needs_35 : decode cX5_needs 35 = .ok (.if_icmp .ne 6, 3) := by decide +kernel
theorem dX5_needs_38 : decode cX5_needs 38 = .ok (.bipush (-2), 2) := by decide +kernel
theorem dX5_needs_40 : decode cX5_needs 40 = .ok (.ireturn, 1) := by decide +kernel
theorem dX5_needs_41 : decode cX5_needs 41 = .ok (.aload_n 0, 1) := by decide +kernel
theorem dX5_needs_42 : decode cX5_needs 42 = .ok (.iload_n 1, 1) := by decide +kernel
theorem dX5_needs_43 : decode cX5_needs 43 = .ok (.invokevirtual 151, 3) := by decide +kernel
theorem dX5_needs_46 : decode cX5_needs 46 = .ok (.ifCond .eq 39, 3) := by decide +kernel
theorem dX5_needs_49 : decode cX5_needs 49 = .ok (.aload_n 0, 1) := by decide +kernel
theorem dX5_needs_50 : decode cX5_needs 50 = .ok (.iload_n 2, 1) := by decide +kernel
theorem dX5_needs_51 : decode cX5_needs 51 = .ok (.invokevirtual 151, 3) := by decide +kernel
theorem dX5_needs_54 : decode cX5_needs 54 = .ok (.ifCond .eq 31, 3) := by decide +kernel
theorem dX5_needs_57 : decode cX5_needs 57 = .ok (.aload_n 0, 1) := by decide +kernel
theorem dX5_needs_58 : decode cX5_needs 58 = .ok (.getfield 62, 3) := by decide +kernel
theorem dX5_needs_61 : decode cX5_needs 61 = .ok (.aload_n 0, 1) := by decide +kernel
theorem dX5_needs_62 : decode cX5_needs 62 = .ok (.getfield 59, 3) := by decide +kernel
theorem dX5_needs_65 : decode cX5_needs 65 = .ok (.iload_n 1, 1) := by decide +kernel
theorem dX5_needs_66 : decode cX5_needs 66 = .ok (.iaload, 1) := by decide +kernel
theorem dX5_needs_67 : decode cX5_needs 67 = .ok (.baload, 1) := by decide +kernel
theorem dX5_needs_68 : decode cX5_needs 68 = .ok (.ifCond .ne 17, 3) := by decide +kernel
theorem dX5_needs_71 : decode cX5_needs 71 = .ok (.aload_n 0, 1) := by decide +kernel
theorem dX5_needs_72 : decode cX5_needs 72 = .ok (.getfield 62, 3) := by decide +kernel
theorem dX5_needs_75 : decode cX5_needs 75 = .ok (.aload_n 0, 1) := by decide +kernel
theorem dX5_needs_76 : decode cX5_needs 76 = .ok (.getfield 59, 3) := by decide +kernel
theorem dX5_needs_79 : decode cX5_needs 79 = .ok (.iload_n 2, 1) := by decide +kernel
theorem dX5_needs_80 : decode cX5_needs 80 = .ok (.iaload, 1) := by decide +kernel
theorem dX5_needs_81 : decode cX5_needs 81 = .ok (.baload, 1) := by decide +kernel
theorem dX5_needs_82 : decode cX5_needs 82 = .ok (.ifCond .eq 6, 3) := by decide +kernel
theorem dX5_needs_85 : decode cX5_needs 85 = .ok (.bipush (-3), 2) := by decide +kernel
theorem dX5_needs_87 : decode cX5_needs 87 = .ok (.ireturn, 1) := by decide +kernel
theorem dX5_needs_88 : decode cX5_needs 88 = .ok (.aload_n 0, 1) := by decide +kernel
theorem dX5_needs_89 : decode cX5_needs 89 = .ok (.getfield 59, 3) := by decide +kernel
theorem dX5_needs_92 : decode cX5_needs 92 = .ok (.iload_n 2, 1) := by decide +kernel
theorem dX5_needs_93 : decode cX5_needs 93 = .ok (.iaload, 1) := by decide +kernel
theorem dX5_needs_94 : decode cX5_needs 94 = .ok (.istore_n 3, 1) := by decide +kernel
theorem dX5_needs_95 : decode cX5_needs 95 = .ok (.iconst 0, 1) := by decide +kernel
theorem dX5_needs_96 : decode cX5_needs 96 = .ok (.istore 4, 2) := by decide +kernel
theorem dX5_needs_98 : decode cX5_needs 98 = .ok (.iconst 1, 1) := by decide +kernel
theorem dX5_needs_99 : decode cX5_needs 99 = .ok (.istore 5, 2) := by decide +kernel
theorem dX5_needs_101 : decode cX5_needs 101 = .ok (.iload 5, 2) := by decide +kernel
theorem dX5_needs_103 : decode cX5_needs 103 = .ok (.aload_n 0, 1) := by decide +kernel
theorem dX5_needs_104 : decode cX5_needs 104 = .ok (.getfield 144, 3) := by decide +kernel
theorem dX5_needs_107 : decode cX5_needs 107 = .ok (.if_icmp .gt 52, 3) := by decide +kernel
theorem dX5_needs_110 : decode cX5_needs 110 = .ok (.aload_n 0, 1) := by decide +kernel
theorem dX5_needs_111 : decode cX5_needs 111 = .ok (.getfield 59, 3) := by decide +kernel
theorem dX5_needs_114 : decode cX5_needs 114 = .ok (.iload 5, 2) := by decide +kernel
theorem dX5_needs_116 : decode cX5_needs 116 = .ok (.iaload, 1) := by decide +kernel
theorem dX5_needs_117 : decode cX5_needs 117 = .ok (.iload_n 3, 1) := by decide +kernel
theorem dX5_needs_118 : decode cX5_needs 118 = .ok (.if_icmp .ne 16, 3) := by decide +kernel
theorem dX5_needs_121 : decode cX5_needs 121 = .ok (.aload_n 0, 1) := by decide +kernel
theorem dX5_needs_122 : decode cX5_needs 122 = .ok (.getfield 59, 3) := by decide +kernel
theorem dX5_needs_125 : decode cX5_needs 125 = .ok (.iload 5, 2) := by decide +kernel
theorem dX5_needs_127 : decode cX5_needs 127 = .ok (.aload_n 0, 1) := by decide +kernel
theorem dX5_needs_128 : decode cX5_needs 128 = .ok (.getfield 59, 3) := by decide +kernel
theorem dX5_needs_131 : decode cX5_needs 131 = .ok (.iload_n 1, 1) := by decide +kernel
theorem dX5_needs_132 : decode cX5_needs 132 = .ok (.iaload, 1) := by decide +kernel
theorem dX5_needs_133 : decode cX5_needs 133 = .ok (.iastore, 1) := by decide +kernel
theorem dX5_needs_134 : decode cX5_needs 134 = .ok (.aload_n 0, 1) := by decide +kernel
theorem dX5_needs_135 : decode cX5_needs 135 = .ok (.getfield 59, 3) := by decide +kernel
theorem dX5_needs_138 : decode cX5_needs 138 = .ok (.iload 5, 2) := by decide +kernel
theorem dX5_needs_140 : decode cX5_needs 140 = .ok (.iaload, 1) := by decide +kernel
theorem dX5_needs_141 : decode cX5_needs 141 = .ok (.aload_n 0, 1) := by decide +kernel
theorem dX5_needs_142 : decode cX5_needs 142 = .ok (.getfield 59, 3) := by decide +kernel
theorem dX5_needs_145 : decode cX5_needs 145 = .ok (.iload_n 1, 1) := by decide +kernel
theorem dX5_needs_146 : decode cX5_needs 146 = .ok (.iaload, 1) := by decide +kernel
theorem dX5_needs_147 : decode cX5_needs 147 = .ok (.if_icmp .ne 6, 3) := by decide +kernel
theorem dX5_needs_150 : decode cX5_needs 150 = .ok (.iinc 4 1, 3) := by decide +kernel
theorem dX5_needs_153 : decode cX5_needs 153 = .ok (.iinc 5 1, 3) := by decide +kernel
theorem dX5_needs_156 : decode cX5_needs 156 = .ok (.goto (-55), 3) := by decide +kernel
theorem dX5_needs_159 : decode cX5_needs 159 = .ok (.iload 4, 2) := by decide +kernel
theorem dX5_needs_161 : decode cX5_needs 161 = .ok (.ireturn, 1) := by decide +kernel
set_option maxRecDepth 20000 in
theorem ggX5_block_X5_none : GoodIn wsX5_block wsX5_none := goodIn_r _ [7, 8, 9, 10, 11, 12, 13, 14, 15, 16, 17, 18, 19, 20, 21, 22, 23, 24, 25, 26, 27, 28, 29, 30, 31, 32, 33, 34, 35, 36, 37, 38, 39, 40, 41, 42, 43, 44, 45] (by decide +kernel) (by decide +kernel)
set_option maxRecDepth 20000 in
theorem gX5_block_X5_none : GoodIn wsX5_block (wsV RX5 136 RX5 yX5_none wsX5_none) := goodIn_app (goodIn_of _ (by decide +kernel)) ggX5_block_X5_none
theorem dX5_block_0 : decode cX5_block 0 = .ok (.aload_n 0, 1) := by decide +kernel
theorem dX5_block_1 : decode cX5_block 1 = .ok (.iload_n 1, 1) := by decide +kernel
theorem dX5_block_2 : decode cX5_block 2 = .ok (.invokevirtual 136, 3) := by decide +kernel
theorem dX5_block_5 : decode cX5_block 5 = .ok (.ifCond .eq 5, 3) := by decide +kernel
theorem dX5_block_8 : decode cX5_block 8 = .ok (.iconst (-1), 1) := by decide +kernel
theorem dX5_block_9 : decode cX5_block 9 = .ok (.ireturn, 1) := by decide +kernel
theorem dX5_block_10 : decode cX5_block 10 = .ok (.iload_n 2, 1) := by decide +kernel
theorem dX5_block_11 : decode cX5_block 11 = .ok (.ifCond .lt 13, 3) := by decide +kernel
theorem dX5_block_14 : decode cX5_block 14 = .ok (.iload_n 2, 1) := by decide +kernel
theorem dX5_block_15 : decode cX5_block 15 = .ok (.bipush 15, 2) := by decide +kernel
theorem dX5_block_17 : decode cX5_block 17 = .ok (.if_icmp .gt 7, 3) := by decide +kernel
theorem dX5_block_20 : decode cX5_block 20 = .ok (.iload_n 3, 1) := by decide +kernel
theorem dX5_block_21 : decode cX5_block 21 = .ok (.ifCond .ne 6, 3) := by decide +kernel
theorem dX5_block_24 : decode cX5_block 24 = .ok (.bipush (-2), 2) := by decide +kernel
theorem dX5_block_26 : decode cX5_block 26 = .ok (.ireturn, 1) := by decide +kernel
theorem dX5_block_27 : decode cX5_block 27 = .ok (.aload_n 0, 1) := by decide +kernel
theorem dX5_block_28 : decode cX5_block 28 = .ok (.getfield 29, 3) := by decide +kernel
theorem dX5_block_31 : decode cX5_block 31 = .ok (.iload_n 1, 1) := by decide +kernel
theorem dX5_block_32 : decode cX5_block 32 = .ok (.iload_n 2, 1) := by decide +kernel
theorem dX5_block_33 : decode cX5_block 33 = .ok (.iastore, 1) := by decide +kernel
theorem dX5_block_34 : decode cX5_block 34 = .ok (.aload_n 0, 1) := by decide +kernel
theorem dX5_block_35 : decode cX5_block 35 = .ok (.getfield 32, 3) := by decide +kernel
theorem dX5_block_38 : decode cX5_block 38 = .ok (.iload_n 1, 1) := by decide +kernel
theorem dX5_block_39 : decode cX5_block 39 = .ok (.iload_n 3, 1) := by decide +kernel
theorem dX5_block_40 : decode cX5_block 40 = .ok (.sipush 255, 3) := by decide +kernel
theorem dX5_block_43 : decode cX5_block 43 = .ok (.iand, 1) := by decide +kernel
theorem dX5_block_44 : decode cX5_block 44 = .ok (.iastore, 1) := by decide +kernel
theorem dX5_block_45 : decode cX5_block 45 = .ok (.iconst 1, 1) := by decide +kernel
theorem dX5_block_46 : decode cX5_block 46 = .ok (.ireturn, 1) := by decide +kernel
set_option maxRecDepth 20000 in
theorem ggX5_condition_X5_hold : GoodIn wsX5_condition wsX5_hold := goodIn_r _ [8, 2, 3, 9, 10, 11, 12, 13, 14, 15, 16, 17, 18, 19, 20, 21, 22, 23, 24, 25, 26, 27, 28, 29, 30, 31, 32, 33, 34, 35, 36, 37, 38, 39, 40, 41, 42, 43, 44] (by decide +kernel) (by decide +kernel)
set_option maxRecDepth 20000 in
theorem gX5_condition_X5_hold : GoodIn wsX5_condition (wsV RX5 154 RX5 yX5_hold wsX5_hold) := goodIn_app (goodIn_of _ (by decide +kernel)) ggX5_condition_X5_hold
theorem dX5_condition_0 : decode cX5_condition 0 = .ok (.aload_n 0, 1) := by decide +kernel
theorem dX5_condition_1 : decode cX5_condition 1 = .ok (.iconst 0, 1) := by decide +kernel
theorem dX5_condition_2 : decode cX5_condition 2 = .ok (.putfield 99, 3) := by decide +kernel
theorem dX5_condition_5 : decode cX5_condition 5 = .ok (.iload_n 1, 1) := by decide +kernel
theorem dX5_condition_6 : decode cX5_condition 6 = .ok (.ifCond .lt 8, 3) := by decide +kernel
theorem dX5_condition_9 : decode cX5_condition 9 = .ok (.iload_n 1, 1) := by decide +kernel
theorem dX5_condition_10 : decode cX5_condition 10 = .ok (.iconst 1, 1) := by decide +kernel
theorem dX5_condition_11 : decode cX5_condition 11 = .ok (.if_icmp .le 5, 3) := by decide +kernel
theorem dX5_condition_14 : decode cX5_condition 14 = .ok (.iconst (-1), 1) := by decide +kernel
theorem dX5_condition_15 : decode cX5_condition 15 = .ok (.ireturn, 1) := by decide +kernel
theorem dX5_condition_16 : decode cX5_condition 16 = .ok (.iload_n 1, 1) := by decide +kernel
theorem dX5_condition_17 : decode cX5_condition 17 = .ok (.ifCond .ne 19, 3) := by decide +kernel
theorem dX5_condition_20 : decode cX5_condition 20 = .ok (.aload_n 0, 1) := by decide +kernel
theorem dX5_condition_21 : decode cX5_condition 21 = .ok (.iload_n 2, 1) := by decide +kernel
theorem dX5_condition_22 : decode cX5_condition 22 = .ok (.ifCond .ne 7, 3) := by decide +kernel
theorem dX5_condition_25 : decode cX5_condition 25 = .ok (.iconst 1, 1) := by decide +kernel
theorem dX5_condition_26 : decode cX5_condition 26 = .ok (.goto 4, 3) := by decide +kernel
theorem dX5_condition_29 : decode cX5_condition 29 = .ok (.iconst 0, 1) := by decide +kernel
theorem dX5_condition_30 : decode cX5_condition 30 = .ok (.putfield 129, 3) := by decide +kernel
theorem dX5_condition_33 : decode cX5_condition 33 = .ok (.goto 16, 3) := by decide +kernel
theorem dX5_condition_36 : decode cX5_condition 36 = .ok (.aload_n 0, 1) := by decide +kernel
theorem dX5_condition_37 : decode cX5_condition 37 = .ok (.iload_n 2, 1) := by decide +kernel
theorem dX5_condition_38 : decode cX5_condition 38 = .ok (.ifCond .ne 7, 3) := by decide +kernel
theorem dX5_condition_41 : decode cX5_condition 41 = .ok (.iconst 1, 1) := by decide +kernel
theorem dX5_condition_42 : decode cX5_condition 42 = .ok (.goto 4, 3) := by decide +kernel
theorem dX5_condition_45 : decode cX5_condition 45 = .ok (.iconst 0, 1) := by decide +kernel
theorem dX5_condition_46 : decode cX5_condition 46 = .ok (.putfield 133, 3) := by decide +kernel
theorem dX5_condition_49 : decode cX5_condition 49 = .ok (.aload_n 0, 1) := by decide +kernel
theorem dX5_condition_50 : decode cX5_condition 50 = .ok (.invokevirtual 154, 3) := by decide +kernel
theorem dX5_condition_53 : decode cX5_condition 53 = .ok (.ifCond .eq 7, 3) := by decide +kernel
theorem dX5_condition_56 : decode cX5_condition 56 = .ok (.iconst 1, 1) := by decide +kernel
theorem dX5_condition_57 : decode cX5_condition 57 = .ok (.goto 4, 3) := by decide +kernel
theorem dX5_condition_60 : decode cX5_condition 60 = .ok (.iconst 0, 1) := by decide +kernel
theorem dX5_condition_61 : decode cX5_condition 61 = .ok (.ireturn, 1) := by decide +kernel
theorem dX5_write_0 : decode cX5_write 0 = .ok (.aload_n 0, 1) := by decide +kernel
theorem dX5_write_1 : decode cX5_write 1 = .ok (.getfield 19, 3) := by decide +kernel
theorem dX5_write_4 : decode cX5_write 4 = .ok (.iload_n 1, 1) := by decide +kernel
theorem dX5_write_5 : decode cX5_write 5 = .ok (.iaload, 1) := by decide +kernel
theorem dX5_write_6 : decode cX5_write 6 = .ok (.istore_n 2, 1) := by decide +kernel
theorem dX5_write_7 : decode cX5_write 7 = .ok (.iconst 1, 1) := by decide +kernel
theorem dX5_write_8 : decode cX5_write 8 = .ok (.aload_n 0, 1) := by decide +kernel
theorem dX5_write_9 : decode cX5_write 9 = .ok (.getfield 13, 3) := by decide +kernel
theorem dX5_write_12 : decode cX5_write 12 = .ok (.iload_n 1, 1) := by decide +kernel
theorem dX5_write_13 : decode cX5_write 13 = .ok (.iaload, 1) := by decide +kernel
theorem dX5_write_14 : decode cX5_write 14 = .ok (.isub, 1) := by decide +kernel
theorem dX5_write_15 : decode cX5_write 15 = .ok (.istore_n 3, 1) := by decide +kernel
theorem dX5_write_16 : decode cX5_write 16 = .ok (.sipush 512, 3) := by decide +kernel
theorem dX5_write_19 : decode cX5_write 19 = .ok (.iload_n 1, 1) := by decide +kernel
theorem dX5_write_20 : decode cX5_write 20 = .ok (.imul, 1) := by decide +kernel
theorem dX5_write_21 : decode cX5_write 21 = .ok (.sipush 256, 3) := by decide +kernel
theorem dX5_write_24 : decode cX5_write 24 = .ok (.iload_n 3, 1) := by decide +kernel
theorem dX5_write_25 : decode cX5_write 25 = .ok (.imul, 1) := by decide +kernel
theorem dX5_write_26 : decode cX5_write 26 = .ok (.iadd, 1) := by decide +kernel
theorem dX5_write_27 : decode cX5_write 27 = .ok (.istore 4, 2) := by decide +kernel
theorem dX5_write_29 : decode cX5_write 29 = .ok (.aload_n 0, 1) := by decide +kernel
theorem dX5_write_30 : decode cX5_write 30 = .ok (.getfield 29, 3) := by decide +kernel
theorem dX5_write_33 : decode cX5_write 33 = .ok (.iload_n 1, 1) := by decide +kernel
theorem dX5_write_34 : decode cX5_write 34 = .ok (.iaload, 1) := by decide +kernel
theorem dX5_write_35 : decode cX5_write 35 = .ok (.aload_n 0, 1) := by decide +kernel
theorem dX5_write_36 : decode cX5_write 36 = .ok (.getfield 53, 3) := by decide +kernel
theorem dX5_write_39 : decode cX5_write 39 = .ok (.iload_n 2, 1) := by decide +kernel
theorem dX5_write_40 : decode cX5_write 40 = .ok (.iaload, 1) := by decide +kernel
theorem dX5_write_41 : decode cX5_write 41 = .ok (.if_icmp .ne 7, 3) := by decide +kernel
theorem dX5_write_44 : decode cX5_write 44 = .ok (.iconst 1, 1) := by decide +kernel
theorem dX5_write_45 : decode cX5_write 45 = .ok (.goto 4, 3) := by decide +kernel
theorem dX5_write_48 : decode cX5_write 48 = .ok (.iconst 0, 1) := by decide +kernel
theorem dX5_write_49 : decode cX5_write 49 = .ok (.istore 5, 2) := by decide +kernel
theorem dX5_write_51 : decode cX5_write 51 = .ok (.bipush 16, 2) := by decide +kernel
theorem dX5_write_53 : decode cX5_write 53 = .ok (.aload_n 0, 1) := by decide +kernel
theorem dX5_write_54 : decode cX5_write 54 = .ok (.getfield 53, 3) := by decide +kernel
theorem dX5_write_57 : decode cX5_write 57 = .ok (.iload_n 2, 1) := by decide +kernel
theorem dX5_write_58 : decode cX5_write 58 = .ok (.iaload, 1) := by decide +kernel
theorem dX5_write_59 : decode cX5_write 59 = .ok (.imul, 1) := by decide +kernel
theorem dX5_write_60 : decode cX5_write 60 = .ok (.istore 6, 2) := by decide +kernel
theorem dX5_write_62 : decode cX5_write 62 = .ok (.iload 6, 2) := by decide +kernel
theorem dX5_write_64 : decode cX5_write 64 = .ok (.istore 7, 2) := by decide +kernel
theorem dX5_write_66 : decode cX5_write 66 = .ok (.iload 7, 2) := by decide +kernel
theorem dX5_write_68 : decode cX5_write 68 = .ok (.iload 6, 2) := by decide +kernel
theorem dX5_write_70 : decode cX5_write 70 = .ok (.bipush 16, 2) := by decide +kernel
theorem dX5_write_72 : decode cX5_write 72 = .ok (.iadd, 1) := by decide +kernel
theorem dX5_write_73 : decode cX5_write 73 = .ok (.if_icmp .ge 59, 3) := by decide +kernel
theorem dX5_write_76 : decode cX5_write 76 = .ok (.iload 7, 2) := by decide +kernel
theorem dX5_write_78 : decode cX5_write 78 = .ok (.aload_n 0, 1) := by decide +kernel
theorem dX5_write_79 : decode cX5_write 79 = .ok (.getfield 47, 3) := by decide +kernel
theorem dX5_write_82 : decode cX5_write 82 = .ok (.iload_n 2, 1) := by decide +kernel
theorem dX5_write_83 : decode cX5_write 83 = .ok (.iaload, 1) := by decide +kernel
theorem dX5_write_84 : decode cX5_write 84 = .ok (.if_icmp .ge 48, 3) := by decide +kernel
theorem dX5_write_87 : decode cX5_write 87 = .ok (.aload_n 0, 1) := by decide +kernel
theorem dX5_write_88 : decode cX5_write 88 = .ok (.getfield 38, 3) := by decide +kernel
theorem dX5_write_91 : decode cX5_write 91 = .ok (.iload 4, 2) := by decide +kernel
theorem dX5_write_93 : decode cX5_write 93 = .ok (.iload 7, 2) := by decide +kernel
theorem dX5_write_95 : decode cX5_write 95 = .ok (.iadd, 1) := by decide +kernel
theorem dX5_write_96 : decode cX5_write 96 = .ok (.aload_n 0, 1) := by decide +kernel
theorem dX5_write_97 : decode cX5_write 97 = .ok (.getfield 65, 3) := by decide +kernel
theorem dX5_write_100 : decode cX5_write 100 = .ok (.sipush 256, 3) := by decide +kernel
theorem dX5_write_103 : decode cX5_write 103 = .ok (.iload_n 2, 1) := by decide +kernel
theorem dX5_write_104 : decode cX5_write 104 = .ok (.imul, 1) := by decide +kernel
theorem dX5_write_105 : decode cX5_write 105 = .ok (.iload 7, 2) := by decide +kernel
theorem dX5_write_107 : decode cX5_write 107 = .ok (.iadd, 1) := by decide +kernel
theorem dX5_write_108 : decode cX5_write 108 = .ok (.iaload, 1) := by decide +kernel
theorem dX5_write_109 : decode cX5_write 109 = .ok (.iload 5, 2) := by decide +kernel
theorem dX5_write_111 : decode cX5_write 111 = .ok (.ifCond .eq 12, 3) := by decide +kernel
theorem dX5_write_114 : decode cX5_write 114 = .ok (.aload_n 0, 1) := by decide +kernel
theorem dX5_write_115 : decode cX5_write 115 = .ok (.getfield 32, 3) := by decide +kernel
theorem dX5_write_118 : decode cX5_write 118 = .ok (.iload_n 1, 1) := by decide +kernel
theorem dX5_write_119 : decode cX5_write 119 = .ok (.iaload, 1) := by decide +kernel
theorem dX5_write_120 : decode cX5_write 120 = .ok (.goto 4, 3) := by decide +kernel
theorem dX5_write_123 : decode cX5_write 123 = .ok (.iconst 0, 1) := by decide +kernel
theorem dX5_write_124 : decode cX5_write 124 = .ok (.ixor, 1) := by decide +kernel
theorem dX5_write_125 : decode cX5_write 125 = .ok (.iastore, 1) := by decide +kernel
theorem dX5_write_126 : decode cX5_write 126 = .ok (.iinc 7 1, 3) := by decide +kernel
theorem dX5_write_129 : decode cX5_write 129 = .ok (.goto (-63), 3) := by decide +kernel
theorem dX5_write_132 : decode cX5_write 132 = .ok (.iload 5, 2) := by decide +kernel
theorem dX5_write_134 : decode cX5_write 134 = .ok (.ifCond .eq 11, 3) := by decide +kernel
theorem dX5_write_137 : decode cX5_write 137 = .ok (.aload_n 0, 1) := by decide +kernel
theorem dX5_write_138 : decode cX5_write 138 = .ok (.getfield 29, 3) := by decide +kernel
theorem dX5_write_141 : decode cX5_write 141 = .ok (.iload_n 1, 1) := by decide +kernel
theorem dX5_write_142 : decode cX5_write 142 = .ok (.iconst (-1), 1) := by decide +kernel
theorem dX5_write_143 : decode cX5_write 143 = .ok (.iastore, 1) := by decide +kernel
theorem dX5_write_144 : decode cX5_write 144 = .ok (.return_, 1) := by decide +kernel
theorem dX5_write_145 : decode cX5_write 145 = .ok (.aload_n 0, 1) := by decide +kernel
theorem dX5_write_146 : decode cX5_write 146 = .ok (.getfield 53, 3) := by decide +kernel
theorem dX5_write_149 : decode cX5_write 149 = .ok (.iload_n 2, 1) := by decide +kernel
theorem dX5_write_150 : decode cX5_write 150 = .ok (.dup2, 1) := by decide +kernel
theorem dX5_write_151 : decode cX5_write 151 = .ok (.iaload, 1) := by decide +kernel
theorem dX5_write_152 : decode cX5_write 152 = .ok (.iconst 1, 1) := by decide +kernel
theorem dX5_write_153 : decode cX5_write 153 = .ok (.iadd, 1) := by decide +kernel
theorem dX5_write_154 : decode cX5_write 154 = .ok (.iastore, 1) := by decide +kernel
theorem dX5_write_155 : decode cX5_write 155 = .ok (.bipush 16, 2) := by decide +kernel
theorem dX5_write_157 : decode cX5_write 157 = .ok (.aload_n 0, 1) := by decide +kernel
theorem dX5_write_158 : decode cX5_write 158 = .ok (.getfield 53, 3) := by decide +kernel
theorem dX5_write_161 : decode cX5_write 161 = .ok (.iload_n 2, 1) := by decide +kernel
theorem dX5_write_162 : decode cX5_write 162 = .ok (.iaload, 1) := by decide +kernel
theorem dX5_write_163 : decode cX5_write 163 = .ok (.imul, 1) := by decide +kernel
theorem dX5_write_164 : decode cX5_write 164 = .ok (.aload_n 0, 1) := by decide +kernel
theorem dX5_write_165 : decode cX5_write 165 = .ok (.getfield 47, 3) := by decide +kernel
theorem dX5_write_168 : decode cX5_write 168 = .ok (.iload_n 2, 1) := by decide +kernel
theorem dX5_write_169 : decode cX5_write 169 = .ok (.iaload, 1) := by decide +kernel
theorem dX5_write_170 : decode cX5_write 170 = .ok (.if_icmp .ge 4, 3) := by decide +kernel
theorem dX5_write_173 : decode cX5_write 173 = .ok (.return_, 1) := by decide +kernel
theorem dX5_write_174 : decode cX5_write 174 = .ok (.aload_n 0, 1) := by decide +kernel
theorem dX5_write_175 : decode cX5_write 175 = .ok (.getfield 47, 3) := by decide +kernel
theorem dX5_write_178 : decode cX5_write 178 = .ok (.iload_n 2, 1) := by decide +kernel
theorem dX5_write_179 : decode cX5_write 179 = .ok (.iaload, 1) := by decide +kernel
theorem dX5_write_180 : decode cX5_write 180 = .ok (.istore 7, 2) := by decide +kernel
theorem dX5_write_182 : decode cX5_write 182 = .ok (.iload 7, 2) := by decide +kernel
theorem dX5_write_184 : decode cX5_write 184 = .ok (.sipush 256, 3) := by decide +kernel
theorem dX5_write_187 : decode cX5_write 187 = .ok (.if_icmp .ge 20, 3) := by decide +kernel
theorem dX5_write_190 : decode cX5_write 190 = .ok (.aload_n 0, 1) := by decide +kernel
theorem dX5_write_191 : decode cX5_write 191 = .ok (.getfield 38, 3) := by decide +kernel
theorem dX5_write_194 : decode cX5_write 194 = .ok (.iload 4, 2) := by decide +kernel
theorem dX5_write_196 : decode cX5_write 196 = .ok (.iload 7, 2) := by decide +kernel
theorem dX5_write_198 : decode cX5_write 198 = .ok (.iadd, 1) := by decide +kernel
theorem dX5_write_199 : decode cX5_write 199 = .ok (.iconst 0, 1) := by decide +kernel
theorem dX5_write_200 : decode cX5_write 200 = .ok (.iastore, 1) := by decide +kernel
theorem dX5_write_201 : decode cX5_write 201 = .ok (.iinc 7 1, 3) := by decide +kernel
theorem dX5_write_204 : decode cX5_write 204 = .ok (.goto (-22), 3) := by decide +kernel
theorem dX5_write_207 : decode cX5_write 207 = .ok (.aload_n 0, 1) := by decide +kernel
theorem dX5_write_208 : decode cX5_write 208 = .ok (.getfield 35, 3) := by decide +kernel
theorem dX5_write_211 : decode cX5_write 211 = .ok (.iconst 2, 1) := by decide +kernel
theorem dX5_write_212 : decode cX5_write 212 = .ok (.iload_n 1, 1) := by decide +kernel
theorem dX5_write_213 : decode cX5_write 213 = .ok (.imul, 1) := by decide +kernel
theorem dX5_write_214 : decode cX5_write 214 = .ok (.iload_n 3, 1) := by decide +kernel
theorem dX5_write_215 : decode cX5_write 215 = .ok (.iadd, 1) := by decide +kernel
theorem dX5_write_216 : decode cX5_write 216 = .ok (.aload_n 0, 1) := by decide +kernel
theorem dX5_write_217 : decode cX5_write 217 = .ok (.getfield 44, 3) := by decide +kernel
theorem dX5_write_220 : decode cX5_write 220 = .ok (.iload_n 2, 1) := by decide +kernel
theorem dX5_write_221 : decode cX5_write 221 = .ok (.iaload, 1) := by decide +kernel
theorem dX5_write_222 : decode cX5_write 222 = .ok (.iastore, 1) := by decide +kernel
theorem dX5_write_223 : decode cX5_write 223 = .ok (.aload_n 0, 1) := by decide +kernel
theorem dX5_write_224 : decode cX5_write 224 = .ok (.getfield 50, 3) := by decide +kernel
theorem dX5_write_227 : decode cX5_write 227 = .ok (.iload_n 2, 1) := by decide +kernel
theorem dX5_write_228 : decode cX5_write 228 = .ok (.iconst 2, 1) := by decide +kernel
theorem dX5_write_229 : decode cX5_write 229 = .ok (.iastore, 1) := by decide +kernel
theorem dX5_write_230 : decode cX5_write 230 = .ok (.aload_n 0, 1) := by decide +kernel
theorem dX5_write_231 : decode cX5_write 231 = .ok (.getfield 56, 3) := by decide +kernel
theorem dX5_write_234 : decode cX5_write 234 = .ok (.iload_n 2, 1) := by decide +kernel
theorem dX5_write_235 : decode cX5_write 235 = .ok (.iload_n 3, 1) := by decide +kernel
theorem dX5_write_236 : decode cX5_write 236 = .ok (.iastore, 1) := by decide +kernel
theorem dX5_write_237 : decode cX5_write 237 = .ok (.return_, 1) := by decide +kernel
set_option maxRecDepth 20000 in
theorem ggX5_allIn_X5_there : GoodIn wsX5_allIn wsX5_there := goodIn_ca (goodIn_r _ [9, 10, 11, 12, 13, 14, 15, 16, 17, 18, 19, 20, 21, 22, 23, 24, 25, 26, 27, 28, 29, 30, 31, 32, 33, 34, 35, 36, 37, 38, 39, 40, 41, 42, 43, 44, 45, 46, 47] (by decide +kernel) (by decide +kernel)) (goodIn_sub (fun _ h => List.mem_cons_of_mem _ (List.mem_append_right _ h)) (by decide +kernel))
set_option maxRecDepth 20000 in
theorem gX5_allIn_X5_there : GoodIn wsX5_allIn (wsV RX5 158 RX5 yX5_there wsX5_there) := goodIn_app (goodIn_of _ (by decide +kernel)) ggX5_allIn_X5_there
